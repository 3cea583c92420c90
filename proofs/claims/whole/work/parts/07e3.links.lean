theorem tqall_of {f : Nat → Bool} {n a : Nat} (h : ((List.range n).map (fun i => i + a)).all f = true) {k : Nat} (h1 : a ≤ k) (h2 : k < a + n) : f k = true := List.all_eq_true.mp h k (List.mem_map.mpr ⟨k - a, List.mem_range.mpr (by omega), by omega⟩)
theorem tqkf_all (k : Nat) (hk : k < 255) : tqkfok k = true := by
  by_cases h120 : k < 120
  · skip
    by_cases h60 : k < 60
    · skip
      by_cases h20 : k < 20
      · skip
        exact tqall_of tqkf_0 (by omega) (by omega)
      · skip
        by_cases h40 : k < 40
        · skip
          exact tqall_of tqkf_20 (by omega) (by omega)
        · skip
          exact tqall_of tqkf_40 (by omega) (by omega)
    · skip
      by_cases h80 : k < 80
      · skip
        exact tqall_of tqkf_60 (by omega) (by omega)
      · skip
        by_cases h100 : k < 100
        · skip
          exact tqall_of tqkf_80 (by omega) (by omega)
        · skip
          exact tqall_of tqkf_100 (by omega) (by omega)
  · skip
    by_cases h180 : k < 180
    · skip
      by_cases h140 : k < 140
      · skip
        exact tqall_of tqkf_120 (by omega) (by omega)
      · skip
        by_cases h160 : k < 160
        · skip
          exact tqall_of tqkf_140 (by omega) (by omega)
        · skip
          exact tqall_of tqkf_160 (by omega) (by omega)
    · skip
      by_cases h220 : k < 220
      · skip
        by_cases h200 : k < 200
        · skip
          exact tqall_of tqkf_180 (by omega) (by omega)
        · skip
          exact tqall_of tqkf_200 (by omega) (by omega)
      · skip
        by_cases h240 : k < 240
        · skip
          exact tqall_of tqkf_220 (by omega) (by omega)
        · skip
          exact tqall_of tqkf_240 (by omega) (by omega)

set_option maxRecDepth 100000 in
theorem tqkc_0 : (tqch 2)[11]? = some (.code (tqmi 0).1 (tqmi 0).2.1 (tqmi 0).2.2.1 (tqmi 0).2.2.2) := rfl
set_option maxRecDepth 100000 in
theorem tqkc_1 : (tqch 4)[24]? = some (.code (tqmi 1).1 (tqmi 1).2.1 (tqmi 1).2.2.1 (tqmi 1).2.2.2) := rfl
set_option maxRecDepth 100000 in
theorem tqkc_2 : (tqch 4)[30]? = some (.code (tqmi 2).1 (tqmi 2).2.1 (tqmi 2).2.2.1 (tqmi 2).2.2.2) := rfl
set_option maxRecDepth 100000 in
theorem tqkc_3 : (tqch 1)[63]? = some (.code (tqmi 3).1 (tqmi 3).2.1 (tqmi 3).2.2.1 (tqmi 3).2.2.2) := rfl
set_option maxRecDepth 100000 in
theorem tqkc_4 : (tqch 3)[46]? = some (.code (tqmi 4).1 (tqmi 4).2.1 (tqmi 4).2.2.1 (tqmi 4).2.2.2) := rfl
set_option maxRecDepth 100000 in
theorem tqkc_5 : (tqch 3)[106]? = some (.code (tqmi 5).1 (tqmi 5).2.1 (tqmi 5).2.2.1 (tqmi 5).2.2.2) := rfl
set_option maxRecDepth 100000 in
theorem tqkc_6 : (tqch 3)[209]? = some (.code (tqmi 6).1 (tqmi 6).2.1 (tqmi 6).2.2.1 (tqmi 6).2.2.2) := rfl
set_option maxRecDepth 100000 in
theorem tqkc_7 : (tqch 3)[193]? = some (.code (tqmi 7).1 (tqmi 7).2.1 (tqmi 7).2.2.1 (tqmi 7).2.2.2) := rfl
set_option maxRecDepth 100000 in
theorem tqkc_8 : (tqch 3)[197]? = some (.code (tqmi 8).1 (tqmi 8).2.1 (tqmi 8).2.2.1 (tqmi 8).2.2.2) := rfl
set_option maxRecDepth 100000 in
theorem tqkc_9 : (tqch 3)[205]? = some (.code (tqmi 9).1 (tqmi 9).2.1 (tqmi 9).2.2.1 (tqmi 9).2.2.2) := rfl
set_option maxRecDepth 100000 in
theorem tqkc_10 : (tqch 3)[236]? = some (.code (tqmi 10).1 (tqmi 10).2.1 (tqmi 10).2.2.1 (tqmi 10).2.2.2) := rfl
set_option maxRecDepth 100000 in
theorem tqkc_11 : (tqch 4)[69]? = some (.code (tqmi 11).1 (tqmi 11).2.1 (tqmi 11).2.2.1 (tqmi 11).2.2.2) := rfl
set_option maxRecDepth 100000 in
theorem tqkc_12 : (tqch 4)[73]? = some (.code (tqmi 12).1 (tqmi 12).2.1 (tqmi 12).2.2.1 (tqmi 12).2.2.2) := rfl
set_option maxRecDepth 100000 in
theorem tqkc_13 : (tqch 4)[81]? = some (.code (tqmi 13).1 (tqmi 13).2.1 (tqmi 13).2.2.1 (tqmi 13).2.2.2) := rfl
set_option maxRecDepth 100000 in
theorem tqkc_14 : (tqch 4)[154]? = some (.code (tqmi 14).1 (tqmi 14).2.1 (tqmi 14).2.2.1 (tqmi 14).2.2.2) := rfl
set_option maxRecDepth 100000 in
theorem tqkc_15 : (tqch 4)[158]? = some (.code (tqmi 15).1 (tqmi 15).2.1 (tqmi 15).2.2.1 (tqmi 15).2.2.2) := rfl
set_option maxRecDepth 100000 in
theorem tqkc_16 : (tqch 5)[65]? = some (.code (tqmi 16).1 (tqmi 16).2.1 (tqmi 16).2.2.1 (tqmi 16).2.2.2) := rfl
set_option maxRecDepth 100000 in
theorem tqkc_17 : (tqch 2)[38]? = some (.code (tqmi 17).1 (tqmi 17).2.1 (tqmi 17).2.2.1 (tqmi 17).2.2.2) := rfl
set_option maxRecDepth 100000 in
theorem tqkc_18 : (tqch 2)[152]? = some (.code (tqmi 18).1 (tqmi 18).2.1 (tqmi 18).2.2.1 (tqmi 18).2.2.2) := rfl
set_option maxRecDepth 100000 in
theorem tqkc_19 : (tqch 2)[156]? = some (.code (tqmi 19).1 (tqmi 19).2.1 (tqmi 19).2.2.1 (tqmi 19).2.2.2) := rfl
set_option maxRecDepth 100000 in
theorem tqkc_20 : (tqch 2)[172]? = some (.code (tqmi 20).1 (tqmi 20).2.1 (tqmi 20).2.2.1 (tqmi 20).2.2.2) := rfl
set_option maxRecDepth 100000 in
theorem tqkc_21 : (tqch 4)[110]? = some (.code (tqmi 21).1 (tqmi 21).2.1 (tqmi 21).2.2.1 (tqmi 21).2.2.2) := rfl
set_option maxRecDepth 100000 in
theorem tqkc_22 : (tqch 4)[170]? = some (.code (tqmi 22).1 (tqmi 22).2.1 (tqmi 22).2.2.1 (tqmi 22).2.2.2) := rfl
set_option maxRecDepth 100000 in
theorem tqkc_23 : (tqch 4)[57]? = some (.code (tqmi 23).1 (tqmi 23).2.1 (tqmi 23).2.2.1 (tqmi 23).2.2.2) := rfl
set_option maxRecDepth 100000 in
theorem tqkc_24 : (tqch 4)[50]? = some (.code (tqmi 24).1 (tqmi 24).2.1 (tqmi 24).2.2.1 (tqmi 24).2.2.2) := rfl
set_option maxRecDepth 100000 in
theorem tqkc_25 : (tqch 1)[182]? = some (.code (tqmi 25).1 (tqmi 25).2.1 (tqmi 25).2.2.1 (tqmi 25).2.2.2) := rfl
set_option maxRecDepth 100000 in
theorem tqkc_26 : (tqch 4)[198]? = some (.code (tqmi 26).1 (tqmi 26).2.1 (tqmi 26).2.2.1 (tqmi 26).2.2.2) := rfl
set_option maxRecDepth 100000 in
theorem tqkc_27 : (tqch 4)[204]? = some (.code (tqmi 27).1 (tqmi 27).2.1 (tqmi 27).2.2.1 (tqmi 27).2.2.2) := rfl
set_option maxRecDepth 100000 in
theorem tqkc_28 : (tqch 4)[210]? = some (.code (tqmi 28).1 (tqmi 28).2.1 (tqmi 28).2.2.1 (tqmi 28).2.2.2) := rfl
set_option maxRecDepth 100000 in
theorem tqkc_29 : (tqch 4)[214]? = some (.code (tqmi 29).1 (tqmi 29).2.1 (tqmi 29).2.2.1 (tqmi 29).2.2.2) := rfl
set_option maxRecDepth 100000 in
theorem tqkc_30 : (tqch 4)[218]? = some (.code (tqmi 30).1 (tqmi 30).2.1 (tqmi 30).2.2.1 (tqmi 30).2.2.2) := rfl
set_option maxRecDepth 100000 in
theorem tqkc_31 : (tqch 4)[222]? = some (.code (tqmi 31).1 (tqmi 31).2.1 (tqmi 31).2.2.1 (tqmi 31).2.2.2) := rfl
set_option maxRecDepth 100000 in
theorem tqkc_32 : (tqch 4)[227]? = some (.code (tqmi 32).1 (tqmi 32).2.1 (tqmi 32).2.2.1 (tqmi 32).2.2.2) := rfl
set_option maxRecDepth 100000 in
theorem tqkc_33 : (tqch 1)[218]? = some (.code (tqmi 33).1 (tqmi 33).2.1 (tqmi 33).2.2.1 (tqmi 33).2.2.2) := rfl
set_option maxRecDepth 100000 in
theorem tqkc_34 : (tqch 4)[235]? = some (.code (tqmi 34).1 (tqmi 34).2.1 (tqmi 34).2.2.1 (tqmi 34).2.2.2) := rfl
set_option maxRecDepth 100000 in
theorem tqkc_35 : (tqch 4)[239]? = some (.code (tqmi 35).1 (tqmi 35).2.1 (tqmi 35).2.2.1 (tqmi 35).2.2.2) := rfl
set_option maxRecDepth 100000 in
theorem tqkc_36 : (tqch 5)[5]? = some (.code (tqmi 36).1 (tqmi 36).2.1 (tqmi 36).2.2.1 (tqmi 36).2.2.2) := rfl
set_option maxRecDepth 100000 in
theorem tqkc_37 : (tqch 5)[10]? = some (.code (tqmi 37).1 (tqmi 37).2.1 (tqmi 37).2.2.1 (tqmi 37).2.2.2) := rfl
set_option maxRecDepth 100000 in
theorem tqkc_38 : (tqch 1)[149]? = some (.code (tqmi 38).1 (tqmi 38).2.1 (tqmi 38).2.2.1 (tqmi 38).2.2.2) := rfl
set_option maxRecDepth 100000 in
theorem tqkc_39 : (tqch 4)[174]? = some (.code (tqmi 39).1 (tqmi 39).2.1 (tqmi 39).2.2.1 (tqmi 39).2.2.2) := rfl
set_option maxRecDepth 100000 in
theorem tqkc_40 : (tqch 4)[181]? = some (.code (tqmi 40).1 (tqmi 40).2.1 (tqmi 40).2.2.1 (tqmi 40).2.2.2) := rfl
set_option maxRecDepth 100000 in
theorem tqkc_41 : (tqch 4)[186]? = some (.code (tqmi 41).1 (tqmi 41).2.1 (tqmi 41).2.2.1 (tqmi 41).2.2.2) := rfl
set_option maxRecDepth 100000 in
theorem tqkc_42 : (tqch 1)[111]? = some (.code (tqmi 42).1 (tqmi 42).2.1 (tqmi 42).2.2.1 (tqmi 42).2.2.2) := rfl
set_option maxRecDepth 100000 in
theorem tqkc_43 : (tqch 4)[99]? = some (.code (tqmi 43).1 (tqmi 43).2.1 (tqmi 43).2.2.1 (tqmi 43).2.2.2) := rfl
set_option maxRecDepth 100000 in
theorem tqkc_44 : (tqch 4)[115]? = some (.code (tqmi 44).1 (tqmi 44).2.1 (tqmi 44).2.2.1 (tqmi 44).2.2.2) := rfl
set_option maxRecDepth 100000 in
theorem tqkc_45 : (tqch 4)[121]? = some (.code (tqmi 45).1 (tqmi 45).2.1 (tqmi 45).2.2.1 (tqmi 45).2.2.2) := rfl
set_option maxRecDepth 100000 in
theorem tqkc_46 : (tqch 4)[125]? = some (.code (tqmi 46).1 (tqmi 46).2.1 (tqmi 46).2.2.1 (tqmi 46).2.2.2) := rfl
set_option maxRecDepth 100000 in
theorem tqkc_47 : (tqch 1)[88]? = some (.code (tqmi 47).1 (tqmi 47).2.1 (tqmi 47).2.2.1 (tqmi 47).2.2.2) := rfl
set_option maxRecDepth 100000 in
theorem tqkc_48 : (tqch 3)[217]? = some (.code (tqmi 48).1 (tqmi 48).2.1 (tqmi 48).2.2.1 (tqmi 48).2.2.2) := rfl
set_option maxRecDepth 100000 in
theorem tqkc_49 : (tqch 2)[191]? = some (.code (tqmi 49).1 (tqmi 49).2.1 (tqmi 49).2.2.1 (tqmi 49).2.2.2) := rfl
set_option maxRecDepth 100000 in
theorem tqkc_50 : (tqch 2)[199]? = some (.code (tqmi 50).1 (tqmi 50).2.1 (tqmi 50).2.2.1 (tqmi 50).2.2.2) := rfl
set_option maxRecDepth 100000 in
theorem tqkc_51 : (tqch 2)[202]? = some (.code (tqmi 51).1 (tqmi 51).2.1 (tqmi 51).2.2.1 (tqmi 51).2.2.2) := rfl
set_option maxRecDepth 100000 in
theorem tqkc_52 : (tqch 3)[221]? = some (.code (tqmi 52).1 (tqmi 52).2.1 (tqmi 52).2.2.1 (tqmi 52).2.2.2) := rfl
set_option maxRecDepth 100000 in
theorem tqkc_53 : (tqch 3)[162]? = some (.code (tqmi 53).1 (tqmi 53).2.1 (tqmi 53).2.2.1 (tqmi 53).2.2.2) := rfl
set_option maxRecDepth 100000 in
theorem tqkc_54 : (tqch 3)[165]? = some (.code (tqmi 54).1 (tqmi 54).2.1 (tqmi 54).2.2.1 (tqmi 54).2.2.2) := rfl
set_option maxRecDepth 100000 in
theorem tqkc_55 : (tqch 5)[70]? = some (.code (tqmi 55).1 (tqmi 55).2.1 (tqmi 55).2.2.1 (tqmi 55).2.2.2) := rfl
set_option maxRecDepth 100000 in
theorem tqkc_56 : (tqch 2)[54]? = some (.code (tqmi 56).1 (tqmi 56).2.1 (tqmi 56).2.2.1 (tqmi 56).2.2.2) := rfl
set_option maxRecDepth 100000 in
theorem tqkc_57 : (tqch 3)[146]? = some (.code (tqmi 57).1 (tqmi 57).2.1 (tqmi 57).2.2.1 (tqmi 57).2.2.2) := rfl
set_option maxRecDepth 100000 in
theorem tqkc_58 : (tqch 3)[173]? = some (.code (tqmi 58).1 (tqmi 58).2.1 (tqmi 58).2.2.1 (tqmi 58).2.2.2) := rfl
set_option maxRecDepth 100000 in
theorem tqkc_59 : (tqch 3)[50]? = some (.code (tqmi 59).1 (tqmi 59).2.1 (tqmi 59).2.2.1 (tqmi 59).2.2.2) := rfl
set_option maxRecDepth 100000 in
theorem tqkc_60 : (tqch 3)[127]? = some (.code (tqmi 60).1 (tqmi 60).2.1 (tqmi 60).2.2.1 (tqmi 60).2.2.2) := rfl
set_option maxRecDepth 100000 in
theorem tqkc_61 : (tqch 3)[119]? = some (.code (tqmi 61).1 (tqmi 61).2.1 (tqmi 61).2.2.1 (tqmi 61).2.2.2) := rfl
set_option maxRecDepth 100000 in
theorem tqkc_62 : (tqch 4)[38]? = some (.code (tqmi 62).1 (tqmi 62).2.1 (tqmi 62).2.2.1 (tqmi 62).2.2.2) := rfl
set_option maxRecDepth 100000 in
theorem tqkc_63 : (tqch 1)[36]? = some (.code (tqmi 63).1 (tqmi 63).2.1 (tqmi 63).2.2.1 (tqmi 63).2.2.2) := rfl
set_option maxRecDepth 100000 in
theorem tqkc_64 : (tqch 2)[224]? = some (.code (tqmi 64).1 (tqmi 64).2.1 (tqmi 64).2.2.1 (tqmi 64).2.2.2) := rfl
set_option maxRecDepth 100000 in
theorem tqkc_65 : (tqch 2)[219]? = some (.code (tqmi 65).1 (tqmi 65).2.1 (tqmi 65).2.2.1 (tqmi 65).2.2.2) := rfl
set_option maxRecDepth 100000 in
theorem tqkc_66 : (tqch 2)[228]? = some (.code (tqmi 66).1 (tqmi 66).2.1 (tqmi 66).2.2.1 (tqmi 66).2.2.2) := rfl
set_option maxRecDepth 100000 in
theorem tqkc_67 : (tqch 3)[2]? = some (.code (tqmi 67).1 (tqmi 67).2.1 (tqmi 67).2.2.1 (tqmi 67).2.2.2) := rfl
set_option maxRecDepth 100000 in
theorem tqkc_68 : (tqch 3)[37]? = some (.code (tqmi 68).1 (tqmi 68).2.1 (tqmi 68).2.2.1 (tqmi 68).2.2.2) := rfl
set_option maxRecDepth 100000 in
theorem tqkc_69 : (tqch 4)[162]? = some (.code (tqmi 69).1 (tqmi 69).2.1 (tqmi 69).2.2.1 (tqmi 69).2.2.2) := rfl
set_option maxRecDepth 100000 in
theorem tqkc_70 : (tqch 3)[6]? = some (.code (tqmi 70).1 (tqmi 70).2.1 (tqmi 70).2.2.1 (tqmi 70).2.2.2) := rfl
set_option maxRecDepth 100000 in
theorem tqkc_71 : (tqch 3)[11]? = some (.code (tqmi 71).1 (tqmi 71).2.1 (tqmi 71).2.2.1 (tqmi 71).2.2.2) := rfl
set_option maxRecDepth 100000 in
theorem tqkc_72 : (tqch 3)[18]? = some (.code (tqmi 72).1 (tqmi 72).2.1 (tqmi 72).2.2.1 (tqmi 72).2.2.2) := rfl
set_option maxRecDepth 100000 in
theorem tqkc_73 : (tqch 5)[60]? = some (.code (tqmi 73).1 (tqmi 73).2.1 (tqmi 73).2.2.1 (tqmi 73).2.2.2) := rfl
set_option maxRecDepth 100000 in
theorem tqkc_74 : (tqch 1)[22]? = some (.code (tqmi 74).1 (tqmi 74).2.1 (tqmi 74).2.2.1 (tqmi 74).2.2.2) := rfl
set_option maxRecDepth 100000 in
theorem tqkc_75 : (tqch 2)[130]? = some (.code (tqmi 75).1 (tqmi 75).2.1 (tqmi 75).2.2.1 (tqmi 75).2.2.2) := rfl
set_option maxRecDepth 100000 in
theorem tqkc_76 : (tqch 2)[148]? = some (.code (tqmi 76).1 (tqmi 76).2.1 (tqmi 76).2.2.1 (tqmi 76).2.2.2) := rfl
set_option maxRecDepth 100000 in
theorem tqkc_77 : (tqch 2)[164]? = some (.code (tqmi 77).1 (tqmi 77).2.1 (tqmi 77).2.2.1 (tqmi 77).2.2.2) := rfl
set_option maxRecDepth 100000 in
theorem tqkc_78 : (tqch 2)[168]? = some (.code (tqmi 78).1 (tqmi 78).2.1 (tqmi 78).2.2.1 (tqmi 78).2.2.2) := rfl
set_option maxRecDepth 100000 in
theorem tqkc_79 : (tqch 2)[179]? = some (.code (tqmi 79).1 (tqmi 79).2.1 (tqmi 79).2.2.1 (tqmi 79).2.2.2) := rfl
set_option maxRecDepth 100000 in
theorem tqkc_80 : (tqch 2)[183]? = some (.code (tqmi 80).1 (tqmi 80).2.1 (tqmi 80).2.2.1 (tqmi 80).2.2.2) := rfl
set_option maxRecDepth 100000 in
theorem tqkc_81 : (tqch 2)[187]? = some (.code (tqmi 81).1 (tqmi 81).2.1 (tqmi 81).2.2.1 (tqmi 81).2.2.2) := rfl
set_option maxRecDepth 100000 in
theorem tqkc_82 : (tqch 2)[206]? = some (.code (tqmi 82).1 (tqmi 82).2.1 (tqmi 82).2.2.1 (tqmi 82).2.2.2) := rfl
set_option maxRecDepth 100000 in
theorem tqkc_83 : (tqch 2)[211]? = some (.code (tqmi 83).1 (tqmi 83).2.1 (tqmi 83).2.2.1 (tqmi 83).2.2.2) := rfl
set_option maxRecDepth 100000 in
theorem tqkc_84 : (tqch 2)[232]? = some (.code (tqmi 84).1 (tqmi 84).2.1 (tqmi 84).2.2.1 (tqmi 84).2.2.2) := rfl
set_option maxRecDepth 100000 in
theorem tqkc_85 : (tqch 2)[238]? = some (.code (tqmi 85).1 (tqmi 85).2.1 (tqmi 85).2.2.1 (tqmi 85).2.2.2) := rfl
set_option maxRecDepth 100000 in
theorem tqkc_86 : (tqch 3)[33]? = some (.code (tqmi 86).1 (tqmi 86).2.1 (tqmi 86).2.2.1 (tqmi 86).2.2.2) := rfl
set_option maxRecDepth 100000 in
theorem tqkc_87 : (tqch 3)[41]? = some (.code (tqmi 87).1 (tqmi 87).2.1 (tqmi 87).2.2.1 (tqmi 87).2.2.2) := rfl
set_option maxRecDepth 100000 in
theorem tqkc_88 : (tqch 3)[111]? = some (.code (tqmi 88).1 (tqmi 88).2.1 (tqmi 88).2.2.1 (tqmi 88).2.2.2) := rfl
set_option maxRecDepth 100000 in
theorem tqkc_89 : (tqch 3)[123]? = some (.code (tqmi 89).1 (tqmi 89).2.1 (tqmi 89).2.2.1 (tqmi 89).2.2.2) := rfl
set_option maxRecDepth 100000 in
theorem tqkc_90 : (tqch 3)[134]? = some (.code (tqmi 90).1 (tqmi 90).2.1 (tqmi 90).2.2.1 (tqmi 90).2.2.2) := rfl
set_option maxRecDepth 100000 in
theorem tqkc_91 : (tqch 3)[138]? = some (.code (tqmi 91).1 (tqmi 91).2.1 (tqmi 91).2.2.1 (tqmi 91).2.2.2) := rfl
set_option maxRecDepth 100000 in
theorem tqkc_92 : (tqch 3)[150]? = some (.code (tqmi 92).1 (tqmi 92).2.1 (tqmi 92).2.2.1 (tqmi 92).2.2.2) := rfl
set_option maxRecDepth 100000 in
theorem tqkc_93 : (tqch 3)[154]? = some (.code (tqmi 93).1 (tqmi 93).2.1 (tqmi 93).2.2.1 (tqmi 93).2.2.2) := rfl
set_option maxRecDepth 100000 in
theorem tqkc_94 : (tqch 3)[158]? = some (.code (tqmi 94).1 (tqmi 94).2.1 (tqmi 94).2.2.1 (tqmi 94).2.2.2) := rfl
set_option maxRecDepth 100000 in
theorem tqkc_95 : (tqch 3)[169]? = some (.code (tqmi 95).1 (tqmi 95).2.1 (tqmi 95).2.2.1 (tqmi 95).2.2.2) := rfl
set_option maxRecDepth 100000 in
theorem tqkc_96 : (tqch 3)[177]? = some (.code (tqmi 96).1 (tqmi 96).2.1 (tqmi 96).2.2.1 (tqmi 96).2.2.2) := rfl
set_option maxRecDepth 100000 in
theorem tqkc_97 : (tqch 3)[181]? = some (.code (tqmi 97).1 (tqmi 97).2.1 (tqmi 97).2.2.1 (tqmi 97).2.2.2) := rfl
set_option maxRecDepth 100000 in
theorem tqkc_98 : (tqch 3)[185]? = some (.code (tqmi 98).1 (tqmi 98).2.1 (tqmi 98).2.2.1 (tqmi 98).2.2.2) := rfl
set_option maxRecDepth 100000 in
theorem tqkc_99 : (tqch 3)[189]? = some (.code (tqmi 99).1 (tqmi 99).2.1 (tqmi 99).2.2.1 (tqmi 99).2.2.2) := rfl
set_option maxRecDepth 100000 in
theorem tqkc_100 : (tqch 3)[201]? = some (.code (tqmi 100).1 (tqmi 100).2.1 (tqmi 100).2.2.1 (tqmi 100).2.2.2) := rfl
set_option maxRecDepth 100000 in
theorem tqkc_101 : (tqch 3)[213]? = some (.code (tqmi 101).1 (tqmi 101).2.1 (tqmi 101).2.2.1 (tqmi 101).2.2.2) := rfl
set_option maxRecDepth 100000 in
theorem tqkc_102 : (tqch 3)[227]? = some (.code (tqmi 102).1 (tqmi 102).2.1 (tqmi 102).2.2.1 (tqmi 102).2.2.2) := rfl
set_option maxRecDepth 100000 in
theorem tqkc_103 : (tqch 3)[231]? = some (.code (tqmi 103).1 (tqmi 103).2.1 (tqmi 103).2.2.1 (tqmi 103).2.2.2) := rfl
set_option maxRecDepth 100000 in
theorem tqkc_104 : (tqch 4)[0]? = some (.code (tqmi 104).1 (tqmi 104).2.1 (tqmi 104).2.2.1 (tqmi 104).2.2.2) := rfl
set_option maxRecDepth 100000 in
theorem tqkc_105 : (tqch 4)[4]? = some (.code (tqmi 105).1 (tqmi 105).2.1 (tqmi 105).2.2.1 (tqmi 105).2.2.2) := rfl
set_option maxRecDepth 100000 in
theorem tqkc_106 : (tqch 4)[8]? = some (.code (tqmi 106).1 (tqmi 106).2.1 (tqmi 106).2.2.1 (tqmi 106).2.2.2) := rfl
set_option maxRecDepth 100000 in
theorem tqkc_107 : (tqch 4)[12]? = some (.code (tqmi 107).1 (tqmi 107).2.1 (tqmi 107).2.2.1 (tqmi 107).2.2.2) := rfl
set_option maxRecDepth 100000 in
theorem tqkc_108 : (tqch 4)[16]? = some (.code (tqmi 108).1 (tqmi 108).2.1 (tqmi 108).2.2.1 (tqmi 108).2.2.2) := rfl
set_option maxRecDepth 100000 in
theorem tqkc_109 : (tqch 4)[20]? = some (.code (tqmi 109).1 (tqmi 109).2.1 (tqmi 109).2.2.1 (tqmi 109).2.2.2) := rfl
set_option maxRecDepth 100000 in
theorem tqkc_110 : (tqch 4)[34]? = some (.code (tqmi 110).1 (tqmi 110).2.1 (tqmi 110).2.2.1 (tqmi 110).2.2.2) := rfl
set_option maxRecDepth 100000 in
theorem tqkc_111 : (tqch 4)[42]? = some (.code (tqmi 111).1 (tqmi 111).2.1 (tqmi 111).2.2.1 (tqmi 111).2.2.2) := rfl
set_option maxRecDepth 100000 in
theorem tqkc_112 : (tqch 4)[46]? = some (.code (tqmi 112).1 (tqmi 112).2.1 (tqmi 112).2.2.1 (tqmi 112).2.2.2) := rfl
set_option maxRecDepth 100000 in
theorem tqkc_113 : (tqch 4)[61]? = some (.code (tqmi 113).1 (tqmi 113).2.1 (tqmi 113).2.2.1 (tqmi 113).2.2.2) := rfl
set_option maxRecDepth 100000 in
theorem tqkc_114 : (tqch 4)[65]? = some (.code (tqmi 114).1 (tqmi 114).2.1 (tqmi 114).2.2.1 (tqmi 114).2.2.2) := rfl
set_option maxRecDepth 100000 in
theorem tqkc_115 : (tqch 4)[77]? = some (.code (tqmi 115).1 (tqmi 115).2.1 (tqmi 115).2.2.1 (tqmi 115).2.2.2) := rfl
set_option maxRecDepth 100000 in
theorem tqkc_116 : (tqch 4)[91]? = some (.code (tqmi 116).1 (tqmi 116).2.1 (tqmi 116).2.2.1 (tqmi 116).2.2.2) := rfl
set_option maxRecDepth 100000 in
theorem tqkc_117 : (tqch 4)[106]? = some (.code (tqmi 117).1 (tqmi 117).2.1 (tqmi 117).2.2.1 (tqmi 117).2.2.2) := rfl
set_option maxRecDepth 100000 in
theorem tqkc_118 : (tqch 4)[129]? = some (.code (tqmi 118).1 (tqmi 118).2.1 (tqmi 118).2.2.1 (tqmi 118).2.2.2) := rfl
set_option maxRecDepth 100000 in
theorem tqkc_119 : (tqch 4)[133]? = some (.code (tqmi 119).1 (tqmi 119).2.1 (tqmi 119).2.2.1 (tqmi 119).2.2.2) := rfl
set_option maxRecDepth 100000 in
theorem tqkc_120 : (tqch 4)[146]? = some (.code (tqmi 120).1 (tqmi 120).2.1 (tqmi 120).2.2.1 (tqmi 120).2.2.2) := rfl
set_option maxRecDepth 100000 in
theorem tqkc_121 : (tqch 4)[166]? = some (.code (tqmi 121).1 (tqmi 121).2.1 (tqmi 121).2.2.1 (tqmi 121).2.2.2) := rfl
set_option maxRecDepth 100000 in
theorem tqkc_122 : (tqch 4)[190]? = some (.code (tqmi 122).1 (tqmi 122).2.1 (tqmi 122).2.2.1 (tqmi 122).2.2.2) := rfl
set_option maxRecDepth 100000 in
theorem tqkc_123 : (tqch 4)[194]? = some (.code (tqmi 123).1 (tqmi 123).2.1 (tqmi 123).2.2.1 (tqmi 123).2.2.2) := rfl
set_option maxRecDepth 100000 in
theorem tqkc_124 : (tqch 4)[231]? = some (.code (tqmi 124).1 (tqmi 124).2.1 (tqmi 124).2.2.1 (tqmi 124).2.2.2) := rfl
set_option maxRecDepth 100000 in
theorem tqkc_125 : (tqch 5)[15]? = some (.code (tqmi 125).1 (tqmi 125).2.1 (tqmi 125).2.2.1 (tqmi 125).2.2.2) := rfl
set_option maxRecDepth 100000 in
theorem tqkc_126 : (tqch 5)[19]? = some (.code (tqmi 126).1 (tqmi 126).2.1 (tqmi 126).2.2.1 (tqmi 126).2.2.2) := rfl
set_option maxRecDepth 100000 in
theorem tqkc_127 : (tqch 5)[23]? = some (.code (tqmi 127).1 (tqmi 127).2.1 (tqmi 127).2.2.1 (tqmi 127).2.2.2) := rfl
set_option maxRecDepth 100000 in
theorem tqkc_128 : (tqch 5)[27]? = some (.code (tqmi 128).1 (tqmi 128).2.1 (tqmi 128).2.2.1 (tqmi 128).2.2.2) := rfl
set_option maxRecDepth 100000 in
theorem tqkc_129 : (tqch 5)[31]? = some (.code (tqmi 129).1 (tqmi 129).2.1 (tqmi 129).2.2.1 (tqmi 129).2.2.2) := rfl
set_option maxRecDepth 100000 in
theorem tqkc_130 : (tqch 5)[42]? = some (.code (tqmi 130).1 (tqmi 130).2.1 (tqmi 130).2.2.1 (tqmi 130).2.2.2) := rfl
set_option maxRecDepth 100000 in
theorem tqkc_131 : (tqch 5)[46]? = some (.code (tqmi 131).1 (tqmi 131).2.1 (tqmi 131).2.2.1 (tqmi 131).2.2.2) := rfl
set_option maxRecDepth 100000 in
theorem tqkc_132 : (tqch 5)[50]? = some (.code (tqmi 132).1 (tqmi 132).2.1 (tqmi 132).2.2.1 (tqmi 132).2.2.2) := rfl
set_option maxRecDepth 100000 in
theorem tqkc_133 : (tqch 2)[215]? = some (.code (tqmi 133).1 (tqmi 133).2.1 (tqmi 133).2.2.1 (tqmi 133).2.2.2) := rfl
set_option maxRecDepth 100000 in
theorem tqkc_134 : (tqch 2)[195]? = some (.code (tqmi 134).1 (tqmi 134).2.1 (tqmi 134).2.2.1 (tqmi 134).2.2.2) := rfl
set_option maxRecDepth 100000 in
theorem tqkc_135 : (tqch 3)[14]? = some (.code (tqmi 135).1 (tqmi 135).2.1 (tqmi 135).2.2.1 (tqmi 135).2.2.2) := rfl
set_option maxRecDepth 100000 in
theorem tqkc_136 : (tqch 3)[130]? = some (.code (tqmi 136).1 (tqmi 136).2.1 (tqmi 136).2.2.1 (tqmi 136).2.2.2) := rfl
set_option maxRecDepth 100000 in
theorem tqkc_137 : (tqch 5)[55]? = some (.code (tqmi 137).1 (tqmi 137).2.1 (tqmi 137).2.2.1 (tqmi 137).2.2.2) := rfl
set_option maxRecDepth 100000 in
theorem tqkc_138 : (tqch 5)[74]? = some (.code (tqmi 138).1 (tqmi 138).2.1 (tqmi 138).2.2.1 (tqmi 138).2.2.2) := rfl
set_option maxRecDepth 100000 in
theorem tqkc_139 : (tqch 5)[38]? = some (.code (tqmi 139).1 (tqmi 139).2.1 (tqmi 139).2.2.1 (tqmi 139).2.2.2) := rfl
set_option maxRecDepth 100000 in
theorem tqkc_140 : (tqch 2)[133]? = some (.code (tqmi 140).1 (tqmi 140).2.1 (tqmi 140).2.2.1 (tqmi 140).2.2.2) := rfl
set_option maxRecDepth 100000 in
theorem tqkc_141 : (tqch 3)[115]? = some (.code (tqmi 141).1 (tqmi 141).2.1 (tqmi 141).2.2.1 (tqmi 141).2.2.2) := rfl
set_option maxRecDepth 100000 in
theorem tqkc_142 : (tqch 3)[142]? = some (.code (tqmi 142).1 (tqmi 142).2.1 (tqmi 142).2.2.1 (tqmi 142).2.2.2) := rfl
set_option maxRecDepth 100000 in
theorem tqkc_143 : (tqch 4)[138]? = some (.code (tqmi 143).1 (tqmi 143).2.1 (tqmi 143).2.2.1 (tqmi 143).2.2.2) := rfl
set_option maxRecDepth 100000 in
theorem tqkc_144 : (tqch 5)[35]? = some (.code (tqmi 144).1 (tqmi 144).2.1 (tqmi 144).2.2.1 (tqmi 144).2.2.2) := rfl
set_option maxRecDepth 100000 in
theorem tqkc_145 : (tqch 4)[95]? = some (.code (tqmi 145).1 (tqmi 145).2.1 (tqmi 145).2.2.1 (tqmi 145).2.2.2) := rfl
set_option maxRecDepth 100000 in
theorem tqkc_146 : (tqch 4)[150]? = some (.code (tqmi 146).1 (tqmi 146).2.1 (tqmi 146).2.2.1 (tqmi 146).2.2.2) := rfl
set_option maxRecDepth 100000 in
theorem tqkc_147 : (tqch 2)[137]? = some (.code (tqmi 147).1 (tqmi 147).2.1 (tqmi 147).2.2.1 (tqmi 147).2.2.2) := rfl
set_option maxRecDepth 100000 in
theorem tqkc_148 : (tqch 2)[160]? = some (.code (tqmi 148).1 (tqmi 148).2.1 (tqmi 148).2.2.1 (tqmi 148).2.2.2) := rfl
set_option maxRecDepth 100000 in
theorem tqkc_149 : (tqch 2)[141]? = some (.code (tqmi 149).1 (tqmi 149).2.1 (tqmi 149).2.2.1 (tqmi 149).2.2.2) := rfl
set_option maxRecDepth 100000 in
theorem tqkc_150 : (tqch 3)[28]? = some (.code (tqmi 150).1 (tqmi 150).2.1 (tqmi 150).2.2.1 (tqmi 150).2.2.2) := rfl
set_option maxRecDepth 100000 in
theorem tqkc_151 : (tqch 5)[79]? = some (.code (tqmi 151).1 (tqmi 151).2.1 (tqmi 151).2.2.1 (tqmi 151).2.2.2) := rfl
set_option maxRecDepth 100000 in
theorem tqkc_152 : (tqch 6)[71]? = some (.code (tqmi 152).1 (tqmi 152).2.1 (tqmi 152).2.2.1 (tqmi 152).2.2.2) := rfl
set_option maxRecDepth 100000 in
theorem tqkc_153 : (tqch 6)[75]? = some (.code (tqmi 153).1 (tqmi 153).2.1 (tqmi 153).2.2.1 (tqmi 153).2.2.2) := rfl
set_option maxRecDepth 100000 in
theorem tqkc_154 : (tqch 6)[171]? = some (.code (tqmi 154).1 (tqmi 154).2.1 (tqmi 154).2.2.1 (tqmi 154).2.2.2) := rfl
set_option maxRecDepth 100000 in
theorem tqkc_155 : (tqch 7)[70]? = some (.code (tqmi 155).1 (tqmi 155).2.1 (tqmi 155).2.2.1 (tqmi 155).2.2.2) := rfl
set_option maxRecDepth 100000 in
theorem tqkc_156 : (tqch 6)[182]? = some (.code (tqmi 156).1 (tqmi 156).2.1 (tqmi 156).2.2.1 (tqmi 156).2.2.2) := rfl
set_option maxRecDepth 100000 in
theorem tqkc_157 : (tqch 6)[68]? = some (.code (tqmi 157).1 (tqmi 157).2.1 (tqmi 157).2.2.1 (tqmi 157).2.2.2) := rfl
set_option maxRecDepth 100000 in
theorem tqkc_158 : (tqch 6)[83]? = some (.code (tqmi 158).1 (tqmi 158).2.1 (tqmi 158).2.2.1 (tqmi 158).2.2.2) := rfl
set_option maxRecDepth 100000 in
theorem tqkc_159 : (tqch 6)[65]? = some (.code (tqmi 159).1 (tqmi 159).2.1 (tqmi 159).2.2.1 (tqmi 159).2.2.2) := rfl
set_option maxRecDepth 100000 in
theorem tqkc_160 : (tqch 6)[79]? = some (.code (tqmi 160).1 (tqmi 160).2.1 (tqmi 160).2.2.1 (tqmi 160).2.2.2) := rfl
set_option maxRecDepth 100000 in
theorem tqkc_161 : (tqch 6)[87]? = some (.code (tqmi 161).1 (tqmi 161).2.1 (tqmi 161).2.2.1 (tqmi 161).2.2.2) := rfl
set_option maxRecDepth 100000 in
theorem tqkc_162 : (tqch 6)[91]? = some (.code (tqmi 162).1 (tqmi 162).2.1 (tqmi 162).2.2.1 (tqmi 162).2.2.2) := rfl
set_option maxRecDepth 100000 in
theorem tqkc_163 : (tqch 6)[98]? = some (.code (tqmi 163).1 (tqmi 163).2.1 (tqmi 163).2.2.1 (tqmi 163).2.2.2) := rfl
set_option maxRecDepth 100000 in
theorem tqkc_164 : (tqch 6)[106]? = some (.code (tqmi 164).1 (tqmi 164).2.1 (tqmi 164).2.2.1 (tqmi 164).2.2.2) := rfl
set_option maxRecDepth 100000 in
theorem tqkc_165 : (tqch 6)[95]? = some (.code (tqmi 165).1 (tqmi 165).2.1 (tqmi 165).2.2.1 (tqmi 165).2.2.2) := rfl
set_option maxRecDepth 100000 in
theorem tqkc_166 : (tqch 6)[102]? = some (.code (tqmi 166).1 (tqmi 166).2.1 (tqmi 166).2.2.1 (tqmi 166).2.2.2) := rfl
set_option maxRecDepth 100000 in
theorem tqkc_167 : (tqch 6)[110]? = some (.code (tqmi 167).1 (tqmi 167).2.1 (tqmi 167).2.2.1 (tqmi 167).2.2.2) := rfl
set_option maxRecDepth 100000 in
theorem tqkc_168 : (tqch 6)[118]? = some (.code (tqmi 168).1 (tqmi 168).2.1 (tqmi 168).2.2.1 (tqmi 168).2.2.2) := rfl
set_option maxRecDepth 100000 in
theorem tqkc_169 : (tqch 6)[122]? = some (.code (tqmi 169).1 (tqmi 169).2.1 (tqmi 169).2.2.1 (tqmi 169).2.2.2) := rfl
set_option maxRecDepth 100000 in
theorem tqkc_170 : (tqch 6)[115]? = some (.code (tqmi 170).1 (tqmi 170).2.1 (tqmi 170).2.2.1 (tqmi 170).2.2.2) := rfl
set_option maxRecDepth 100000 in
theorem tqkc_171 : (tqch 6)[126]? = some (.code (tqmi 171).1 (tqmi 171).2.1 (tqmi 171).2.2.1 (tqmi 171).2.2.2) := rfl
set_option maxRecDepth 100000 in
theorem tqkc_172 : (tqch 6)[139]? = some (.code (tqmi 172).1 (tqmi 172).2.1 (tqmi 172).2.2.1 (tqmi 172).2.2.2) := rfl
set_option maxRecDepth 100000 in
theorem tqkc_173 : (tqch 6)[134]? = some (.code (tqmi 173).1 (tqmi 173).2.1 (tqmi 173).2.2.1 (tqmi 173).2.2.2) := rfl
set_option maxRecDepth 100000 in
theorem tqkc_174 : (tqch 6)[130]? = some (.code (tqmi 174).1 (tqmi 174).2.1 (tqmi 174).2.2.1 (tqmi 174).2.2.2) := rfl
set_option maxRecDepth 100000 in
theorem tqkc_175 : (tqch 6)[143]? = some (.code (tqmi 175).1 (tqmi 175).2.1 (tqmi 175).2.2.1 (tqmi 175).2.2.2) := rfl
set_option maxRecDepth 100000 in
theorem tqkc_176 : (tqch 6)[155]? = some (.code (tqmi 176).1 (tqmi 176).2.1 (tqmi 176).2.2.1 (tqmi 176).2.2.2) := rfl
set_option maxRecDepth 100000 in
theorem tqkc_177 : (tqch 6)[163]? = some (.code (tqmi 177).1 (tqmi 177).2.1 (tqmi 177).2.2.1 (tqmi 177).2.2.2) := rfl
set_option maxRecDepth 100000 in
theorem tqkc_178 : (tqch 6)[197]? = some (.code (tqmi 178).1 (tqmi 178).2.1 (tqmi 178).2.2.1 (tqmi 178).2.2.2) := rfl
set_option maxRecDepth 100000 in
theorem tqkc_179 : (tqch 6)[150]? = some (.code (tqmi 179).1 (tqmi 179).2.1 (tqmi 179).2.2.1 (tqmi 179).2.2.2) := rfl
set_option maxRecDepth 100000 in
theorem tqkc_180 : (tqch 6)[147]? = some (.code (tqmi 180).1 (tqmi 180).2.1 (tqmi 180).2.2.1 (tqmi 180).2.2.2) := rfl
set_option maxRecDepth 100000 in
theorem tqkc_181 : (tqch 6)[167]? = some (.code (tqmi 181).1 (tqmi 181).2.1 (tqmi 181).2.2.1 (tqmi 181).2.2.2) := rfl
set_option maxRecDepth 100000 in
theorem tqkc_182 : (tqch 6)[159]? = some (.code (tqmi 182).1 (tqmi 182).2.1 (tqmi 182).2.2.1 (tqmi 182).2.2.2) := rfl
set_option maxRecDepth 100000 in
theorem tqkc_183 : (tqch 6)[179]? = some (.code (tqmi 183).1 (tqmi 183).2.1 (tqmi 183).2.2.1 (tqmi 183).2.2.2) := rfl
set_option maxRecDepth 100000 in
theorem tqkc_184 : (tqch 6)[186]? = some (.code (tqmi 184).1 (tqmi 184).2.1 (tqmi 184).2.2.1 (tqmi 184).2.2.2) := rfl
set_option maxRecDepth 100000 in
theorem tqkc_185 : (tqch 6)[175]? = some (.code (tqmi 185).1 (tqmi 185).2.1 (tqmi 185).2.2.1 (tqmi 185).2.2.2) := rfl
set_option maxRecDepth 100000 in
theorem tqkc_186 : (tqch 6)[190]? = some (.code (tqmi 186).1 (tqmi 186).2.1 (tqmi 186).2.2.1 (tqmi 186).2.2.2) := rfl
set_option maxRecDepth 100000 in
theorem tqkc_187 : (tqch 6)[201]? = some (.code (tqmi 187).1 (tqmi 187).2.1 (tqmi 187).2.2.1 (tqmi 187).2.2.2) := rfl
set_option maxRecDepth 100000 in
theorem tqkc_188 : (tqch 6)[194]? = some (.code (tqmi 188).1 (tqmi 188).2.1 (tqmi 188).2.2.1 (tqmi 188).2.2.2) := rfl
set_option maxRecDepth 100000 in
theorem tqkc_189 : (tqch 6)[205]? = some (.code (tqmi 189).1 (tqmi 189).2.1 (tqmi 189).2.2.1 (tqmi 189).2.2.2) := rfl
set_option maxRecDepth 100000 in
theorem tqkc_190 : (tqch 6)[209]? = some (.code (tqmi 190).1 (tqmi 190).2.1 (tqmi 190).2.2.1 (tqmi 190).2.2.2) := rfl
set_option maxRecDepth 100000 in
theorem tqkc_191 : (tqch 6)[213]? = some (.code (tqmi 191).1 (tqmi 191).2.1 (tqmi 191).2.2.1 (tqmi 191).2.2.2) := rfl
set_option maxRecDepth 100000 in
theorem tqkc_192 : (tqch 6)[225]? = some (.code (tqmi 192).1 (tqmi 192).2.1 (tqmi 192).2.2.1 (tqmi 192).2.2.2) := rfl
set_option maxRecDepth 100000 in
theorem tqkc_193 : (tqch 6)[221]? = some (.code (tqmi 193).1 (tqmi 193).2.1 (tqmi 193).2.2.1 (tqmi 193).2.2.2) := rfl
set_option maxRecDepth 100000 in
theorem tqkc_194 : (tqch 6)[229]? = some (.code (tqmi 194).1 (tqmi 194).2.1 (tqmi 194).2.2.1 (tqmi 194).2.2.2) := rfl
set_option maxRecDepth 100000 in
theorem tqkc_195 : (tqch 6)[233]? = some (.code (tqmi 195).1 (tqmi 195).2.1 (tqmi 195).2.2.1 (tqmi 195).2.2.2) := rfl
set_option maxRecDepth 100000 in
theorem tqkc_196 : (tqch 6)[237]? = some (.code (tqmi 196).1 (tqmi 196).2.1 (tqmi 196).2.2.1 (tqmi 196).2.2.2) := rfl
set_option maxRecDepth 100000 in
theorem tqkc_197 : (tqch 7)[1]? = some (.code (tqmi 197).1 (tqmi 197).2.1 (tqmi 197).2.2.1 (tqmi 197).2.2.2) := rfl
set_option maxRecDepth 100000 in
theorem tqkc_198 : (tqch 7)[5]? = some (.code (tqmi 198).1 (tqmi 198).2.1 (tqmi 198).2.2.1 (tqmi 198).2.2.2) := rfl
set_option maxRecDepth 100000 in
theorem tqkc_199 : (tqch 7)[16]? = some (.code (tqmi 199).1 (tqmi 199).2.1 (tqmi 199).2.2.1 (tqmi 199).2.2.2) := rfl
set_option maxRecDepth 100000 in
theorem tqkc_200 : (tqch 7)[13]? = some (.code (tqmi 200).1 (tqmi 200).2.1 (tqmi 200).2.2.1 (tqmi 200).2.2.2) := rfl
set_option maxRecDepth 100000 in
theorem tqkc_201 : (tqch 7)[9]? = some (.code (tqmi 201).1 (tqmi 201).2.1 (tqmi 201).2.2.1 (tqmi 201).2.2.2) := rfl
set_option maxRecDepth 100000 in
theorem tqkc_202 : (tqch 7)[23]? = some (.code (tqmi 202).1 (tqmi 202).2.1 (tqmi 202).2.2.1 (tqmi 202).2.2.2) := rfl
set_option maxRecDepth 100000 in
theorem tqkc_203 : (tqch 7)[20]? = some (.code (tqmi 203).1 (tqmi 203).2.1 (tqmi 203).2.2.1 (tqmi 203).2.2.2) := rfl
set_option maxRecDepth 100000 in
theorem tqkc_204 : (tqch 6)[217]? = some (.code (tqmi 204).1 (tqmi 204).2.1 (tqmi 204).2.2.1 (tqmi 204).2.2.2) := rfl
set_option maxRecDepth 100000 in
theorem tqkc_205 : (tqch 7)[27]? = some (.code (tqmi 205).1 (tqmi 205).2.1 (tqmi 205).2.2.1 (tqmi 205).2.2.2) := rfl
set_option maxRecDepth 100000 in
theorem tqkc_206 : (tqch 7)[31]? = some (.code (tqmi 206).1 (tqmi 206).2.1 (tqmi 206).2.2.1 (tqmi 206).2.2.2) := rfl
set_option maxRecDepth 100000 in
theorem tqkc_207 : (tqch 7)[35]? = some (.code (tqmi 207).1 (tqmi 207).2.1 (tqmi 207).2.2.1 (tqmi 207).2.2.2) := rfl
set_option maxRecDepth 100000 in
theorem tqkc_208 : (tqch 7)[39]? = some (.code (tqmi 208).1 (tqmi 208).2.1 (tqmi 208).2.2.1 (tqmi 208).2.2.2) := rfl
set_option maxRecDepth 100000 in
theorem tqkc_209 : (tqch 7)[43]? = some (.code (tqmi 209).1 (tqmi 209).2.1 (tqmi 209).2.2.1 (tqmi 209).2.2.2) := rfl
set_option maxRecDepth 100000 in
theorem tqkc_210 : (tqch 7)[47]? = some (.code (tqmi 210).1 (tqmi 210).2.1 (tqmi 210).2.2.1 (tqmi 210).2.2.2) := rfl
set_option maxRecDepth 100000 in
theorem tqkc_211 : (tqch 7)[54]? = some (.code (tqmi 211).1 (tqmi 211).2.1 (tqmi 211).2.2.1 (tqmi 211).2.2.2) := rfl
set_option maxRecDepth 100000 in
theorem tqkc_212 : (tqch 7)[51]? = some (.code (tqmi 212).1 (tqmi 212).2.1 (tqmi 212).2.2.1 (tqmi 212).2.2.2) := rfl
set_option maxRecDepth 100000 in
theorem tqkc_213 : (tqch 7)[66]? = some (.code (tqmi 213).1 (tqmi 213).2.1 (tqmi 213).2.2.1 (tqmi 213).2.2.2) := rfl
set_option maxRecDepth 100000 in
theorem tqkc_214 : (tqch 7)[62]? = some (.code (tqmi 214).1 (tqmi 214).2.1 (tqmi 214).2.2.1 (tqmi 214).2.2.2) := rfl
set_option maxRecDepth 100000 in
theorem tqkc_215 : (tqch 7)[58]? = some (.code (tqmi 215).1 (tqmi 215).2.1 (tqmi 215).2.2.1 (tqmi 215).2.2.2) := rfl
set_option maxRecDepth 100000 in
theorem tqkc_216 : (tqch 7)[78]? = some (.code (tqmi 216).1 (tqmi 216).2.1 (tqmi 216).2.2.1 (tqmi 216).2.2.2) := rfl
set_option maxRecDepth 100000 in
theorem tqkc_217 : (tqch 7)[74]? = some (.code (tqmi 217).1 (tqmi 217).2.1 (tqmi 217).2.2.1 (tqmi 217).2.2.2) := rfl
set_option maxRecDepth 100000 in
theorem tqkc_218 : (tqch 7)[82]? = some (.code (tqmi 218).1 (tqmi 218).2.1 (tqmi 218).2.2.1 (tqmi 218).2.2.2) := rfl
set_option maxRecDepth 100000 in
theorem tqkc_219 : (tqch 7)[86]? = some (.code (tqmi 219).1 (tqmi 219).2.1 (tqmi 219).2.2.1 (tqmi 219).2.2.2) := rfl
set_option maxRecDepth 100000 in
theorem tqkc_220 : (tqch 7)[90]? = some (.code (tqmi 220).1 (tqmi 220).2.1 (tqmi 220).2.2.1 (tqmi 220).2.2.2) := rfl
set_option maxRecDepth 100000 in
theorem tqkc_221 : (tqch 7)[98]? = some (.code (tqmi 221).1 (tqmi 221).2.1 (tqmi 221).2.2.1 (tqmi 221).2.2.2) := rfl
set_option maxRecDepth 100000 in
theorem tqkc_222 : (tqch 7)[94]? = some (.code (tqmi 222).1 (tqmi 222).2.1 (tqmi 222).2.2.1 (tqmi 222).2.2.2) := rfl
set_option maxRecDepth 100000 in
theorem tqkc_223 : (tqch 7)[105]? = some (.code (tqmi 223).1 (tqmi 223).2.1 (tqmi 223).2.2.1 (tqmi 223).2.2.2) := rfl
set_option maxRecDepth 100000 in
theorem tqkc_224 : (tqch 7)[102]? = some (.code (tqmi 224).1 (tqmi 224).2.1 (tqmi 224).2.2.1 (tqmi 224).2.2.2) := rfl
set_option maxRecDepth 100000 in
theorem tqkc_225 : (tqch 7)[121]? = some (.code (tqmi 225).1 (tqmi 225).2.1 (tqmi 225).2.2.1 (tqmi 225).2.2.2) := rfl
set_option maxRecDepth 100000 in
theorem tqkc_226 : (tqch 7)[113]? = some (.code (tqmi 226).1 (tqmi 226).2.1 (tqmi 226).2.2.1 (tqmi 226).2.2.2) := rfl
set_option maxRecDepth 100000 in
theorem tqkc_227 : (tqch 7)[117]? = some (.code (tqmi 227).1 (tqmi 227).2.1 (tqmi 227).2.2.1 (tqmi 227).2.2.2) := rfl
set_option maxRecDepth 100000 in
theorem tqkc_228 : (tqch 7)[109]? = some (.code (tqmi 228).1 (tqmi 228).2.1 (tqmi 228).2.2.1 (tqmi 228).2.2.2) := rfl
set_option maxRecDepth 100000 in
theorem tqkc_229 : (tqch 7)[133]? = some (.code (tqmi 229).1 (tqmi 229).2.1 (tqmi 229).2.2.1 (tqmi 229).2.2.2) := rfl
set_option maxRecDepth 100000 in
theorem tqkc_230 : (tqch 7)[125]? = some (.code (tqmi 230).1 (tqmi 230).2.1 (tqmi 230).2.2.1 (tqmi 230).2.2.2) := rfl
set_option maxRecDepth 100000 in
theorem tqkc_231 : (tqch 7)[129]? = some (.code (tqmi 231).1 (tqmi 231).2.1 (tqmi 231).2.2.1 (tqmi 231).2.2.2) := rfl
set_option maxRecDepth 100000 in
theorem tqkc_232 : (tqch 7)[137]? = some (.code (tqmi 232).1 (tqmi 232).2.1 (tqmi 232).2.2.1 (tqmi 232).2.2.2) := rfl
set_option maxRecDepth 100000 in
theorem tqkc_233 : (tqch 7)[141]? = some (.code (tqmi 233).1 (tqmi 233).2.1 (tqmi 233).2.2.1 (tqmi 233).2.2.2) := rfl
set_option maxRecDepth 100000 in
theorem tqkc_234 : (tqch 7)[150]? = some (.code (tqmi 234).1 (tqmi 234).2.1 (tqmi 234).2.2.1 (tqmi 234).2.2.2) := rfl
set_option maxRecDepth 100000 in
theorem tqkc_235 : (tqch 7)[146]? = some (.code (tqmi 235).1 (tqmi 235).2.1 (tqmi 235).2.2.1 (tqmi 235).2.2.2) := rfl
set_option maxRecDepth 100000 in
theorem tqkc_236 : (tqch 7)[158]? = some (.code (tqmi 236).1 (tqmi 236).2.1 (tqmi 236).2.2.1 (tqmi 236).2.2.2) := rfl
set_option maxRecDepth 100000 in
theorem tqkc_237 : (tqch 7)[154]? = some (.code (tqmi 237).1 (tqmi 237).2.1 (tqmi 237).2.2.1 (tqmi 237).2.2.2) := rfl
set_option maxRecDepth 100000 in
theorem tqkc_238 : (tqch 7)[162]? = some (.code (tqmi 238).1 (tqmi 238).2.1 (tqmi 238).2.2.1 (tqmi 238).2.2.2) := rfl
set_option maxRecDepth 100000 in
theorem tqkc_239 : (tqch 7)[170]? = some (.code (tqmi 239).1 (tqmi 239).2.1 (tqmi 239).2.2.1 (tqmi 239).2.2.2) := rfl
set_option maxRecDepth 100000 in
theorem tqkc_240 : (tqch 7)[166]? = some (.code (tqmi 240).1 (tqmi 240).2.1 (tqmi 240).2.2.1 (tqmi 240).2.2.2) := rfl
set_option maxRecDepth 100000 in
theorem tqkc_241 : (tqch 7)[178]? = some (.code (tqmi 241).1 (tqmi 241).2.1 (tqmi 241).2.2.1 (tqmi 241).2.2.2) := rfl
set_option maxRecDepth 100000 in
theorem tqkc_242 : (tqch 7)[174]? = some (.code (tqmi 242).1 (tqmi 242).2.1 (tqmi 242).2.2.1 (tqmi 242).2.2.2) := rfl
set_option maxRecDepth 100000 in
theorem tqkc_243 : (tqch 7)[182]? = some (.code (tqmi 243).1 (tqmi 243).2.1 (tqmi 243).2.2.1 (tqmi 243).2.2.2) := rfl
set_option maxRecDepth 100000 in
theorem tqkc_244 : (tqch 7)[186]? = some (.code (tqmi 244).1 (tqmi 244).2.1 (tqmi 244).2.2.1 (tqmi 244).2.2.2) := rfl
set_option maxRecDepth 100000 in
theorem tqkc_245 : (tqch 7)[190]? = some (.code (tqmi 245).1 (tqmi 245).2.1 (tqmi 245).2.2.1 (tqmi 245).2.2.2) := rfl
set_option maxRecDepth 100000 in
theorem tqkc_246 : (tqch 7)[194]? = some (.code (tqmi 246).1 (tqmi 246).2.1 (tqmi 246).2.2.1 (tqmi 246).2.2.2) := rfl
set_option maxRecDepth 100000 in
theorem tqkc_247 : (tqch 7)[202]? = some (.code (tqmi 247).1 (tqmi 247).2.1 (tqmi 247).2.2.1 (tqmi 247).2.2.2) := rfl
set_option maxRecDepth 100000 in
theorem tqkc_248 : (tqch 7)[198]? = some (.code (tqmi 248).1 (tqmi 248).2.1 (tqmi 248).2.2.1 (tqmi 248).2.2.2) := rfl
set_option maxRecDepth 100000 in
theorem tqkc_249 : (tqch 7)[206]? = some (.code (tqmi 249).1 (tqmi 249).2.1 (tqmi 249).2.2.1 (tqmi 249).2.2.2) := rfl
set_option maxRecDepth 100000 in
theorem tqkc_250 : (tqch 7)[210]? = some (.code (tqmi 250).1 (tqmi 250).2.1 (tqmi 250).2.2.1 (tqmi 250).2.2.2) := rfl
set_option maxRecDepth 100000 in
theorem tqkc_251 : (tqch 7)[219]? = some (.code (tqmi 251).1 (tqmi 251).2.1 (tqmi 251).2.2.1 (tqmi 251).2.2.2) := rfl
set_option maxRecDepth 100000 in
theorem tqkc_252 : (tqch 7)[214]? = some (.code (tqmi 252).1 (tqmi 252).2.1 (tqmi 252).2.2.1 (tqmi 252).2.2.2) := rfl
set_option maxRecDepth 100000 in
theorem tqkc_253 : (tqch 4)[84]? = some (.code (tqmi 253).1 (tqmi 253).2.1 (tqmi 253).2.2.1 (tqmi 253).2.2.2) := rfl
set_option maxRecDepth 100000 in
theorem tqkc_254 : (tqch 2)[144]? = some (.code (tqmi 254).1 (tqmi 254).2.1 (tqmi 254).2.2.1 (tqmi 254).2.2.2) := rfl
def tqkcP (k : Nat) : Prop := (tqch (tqkf k).2.1)[(tqkf k).2.2.1]? = some (.code (tqmi k).1 (tqmi k).2.1 (tqmi k).2.2.1 (tqmi k).2.2.2)
theorem tqkcz_0 : ∀ i, i < 20 → tqkcP (i + 0) := fun i hi => by
  match i, hi with
  | 0, _ => exact tqkc_0
  | 1, _ => exact tqkc_1
  | 2, _ => exact tqkc_2
  | 3, _ => exact tqkc_3
  | 4, _ => exact tqkc_4
  | 5, _ => exact tqkc_5
  | 6, _ => exact tqkc_6
  | 7, _ => exact tqkc_7
  | 8, _ => exact tqkc_8
  | 9, _ => exact tqkc_9
  | 10, _ => exact tqkc_10
  | 11, _ => exact tqkc_11
  | 12, _ => exact tqkc_12
  | 13, _ => exact tqkc_13
  | 14, _ => exact tqkc_14
  | 15, _ => exact tqkc_15
  | 16, _ => exact tqkc_16
  | 17, _ => exact tqkc_17
  | 18, _ => exact tqkc_18
  | 19, _ => exact tqkc_19
  | _ + 20, hi => exact absurd hi (by omega)
theorem tqkcz_20 : ∀ i, i < 20 → tqkcP (i + 20) := fun i hi => by
  match i, hi with
  | 0, _ => exact tqkc_20
  | 1, _ => exact tqkc_21
  | 2, _ => exact tqkc_22
  | 3, _ => exact tqkc_23
  | 4, _ => exact tqkc_24
  | 5, _ => exact tqkc_25
  | 6, _ => exact tqkc_26
  | 7, _ => exact tqkc_27
  | 8, _ => exact tqkc_28
  | 9, _ => exact tqkc_29
  | 10, _ => exact tqkc_30
  | 11, _ => exact tqkc_31
  | 12, _ => exact tqkc_32
  | 13, _ => exact tqkc_33
  | 14, _ => exact tqkc_34
  | 15, _ => exact tqkc_35
  | 16, _ => exact tqkc_36
  | 17, _ => exact tqkc_37
  | 18, _ => exact tqkc_38
  | 19, _ => exact tqkc_39
  | _ + 20, hi => exact absurd hi (by omega)
theorem tqkcz_40 : ∀ i, i < 20 → tqkcP (i + 40) := fun i hi => by
  match i, hi with
  | 0, _ => exact tqkc_40
  | 1, _ => exact tqkc_41
  | 2, _ => exact tqkc_42
  | 3, _ => exact tqkc_43
  | 4, _ => exact tqkc_44
  | 5, _ => exact tqkc_45
  | 6, _ => exact tqkc_46
  | 7, _ => exact tqkc_47
  | 8, _ => exact tqkc_48
  | 9, _ => exact tqkc_49
  | 10, _ => exact tqkc_50
  | 11, _ => exact tqkc_51
  | 12, _ => exact tqkc_52
  | 13, _ => exact tqkc_53
  | 14, _ => exact tqkc_54
  | 15, _ => exact tqkc_55
  | 16, _ => exact tqkc_56
  | 17, _ => exact tqkc_57
  | 18, _ => exact tqkc_58
  | 19, _ => exact tqkc_59
  | _ + 20, hi => exact absurd hi (by omega)
theorem tqkcz_60 : ∀ i, i < 20 → tqkcP (i + 60) := fun i hi => by
  match i, hi with
  | 0, _ => exact tqkc_60
  | 1, _ => exact tqkc_61
  | 2, _ => exact tqkc_62
  | 3, _ => exact tqkc_63
  | 4, _ => exact tqkc_64
  | 5, _ => exact tqkc_65
  | 6, _ => exact tqkc_66
  | 7, _ => exact tqkc_67
  | 8, _ => exact tqkc_68
  | 9, _ => exact tqkc_69
  | 10, _ => exact tqkc_70
  | 11, _ => exact tqkc_71
  | 12, _ => exact tqkc_72
  | 13, _ => exact tqkc_73
  | 14, _ => exact tqkc_74
  | 15, _ => exact tqkc_75
  | 16, _ => exact tqkc_76
  | 17, _ => exact tqkc_77
  | 18, _ => exact tqkc_78
  | 19, _ => exact tqkc_79
  | _ + 20, hi => exact absurd hi (by omega)
theorem tqkcz_80 : ∀ i, i < 20 → tqkcP (i + 80) := fun i hi => by
  match i, hi with
  | 0, _ => exact tqkc_80
  | 1, _ => exact tqkc_81
  | 2, _ => exact tqkc_82
  | 3, _ => exact tqkc_83
  | 4, _ => exact tqkc_84
  | 5, _ => exact tqkc_85
  | 6, _ => exact tqkc_86
  | 7, _ => exact tqkc_87
  | 8, _ => exact tqkc_88
  | 9, _ => exact tqkc_89
  | 10, _ => exact tqkc_90
  | 11, _ => exact tqkc_91
  | 12, _ => exact tqkc_92
  | 13, _ => exact tqkc_93
  | 14, _ => exact tqkc_94
  | 15, _ => exact tqkc_95
  | 16, _ => exact tqkc_96
  | 17, _ => exact tqkc_97
  | 18, _ => exact tqkc_98
  | 19, _ => exact tqkc_99
  | _ + 20, hi => exact absurd hi (by omega)
theorem tqkcz_100 : ∀ i, i < 20 → tqkcP (i + 100) := fun i hi => by
  match i, hi with
  | 0, _ => exact tqkc_100
  | 1, _ => exact tqkc_101
  | 2, _ => exact tqkc_102
  | 3, _ => exact tqkc_103
  | 4, _ => exact tqkc_104
  | 5, _ => exact tqkc_105
  | 6, _ => exact tqkc_106
  | 7, _ => exact tqkc_107
  | 8, _ => exact tqkc_108
  | 9, _ => exact tqkc_109
  | 10, _ => exact tqkc_110
  | 11, _ => exact tqkc_111
  | 12, _ => exact tqkc_112
  | 13, _ => exact tqkc_113
  | 14, _ => exact tqkc_114
  | 15, _ => exact tqkc_115
  | 16, _ => exact tqkc_116
  | 17, _ => exact tqkc_117
  | 18, _ => exact tqkc_118
  | 19, _ => exact tqkc_119
  | _ + 20, hi => exact absurd hi (by omega)
theorem tqkcz_120 : ∀ i, i < 20 → tqkcP (i + 120) := fun i hi => by
  match i, hi with
  | 0, _ => exact tqkc_120
  | 1, _ => exact tqkc_121
  | 2, _ => exact tqkc_122
  | 3, _ => exact tqkc_123
  | 4, _ => exact tqkc_124
  | 5, _ => exact tqkc_125
  | 6, _ => exact tqkc_126
  | 7, _ => exact tqkc_127
  | 8, _ => exact tqkc_128
  | 9, _ => exact tqkc_129
  | 10, _ => exact tqkc_130
  | 11, _ => exact tqkc_131
  | 12, _ => exact tqkc_132
  | 13, _ => exact tqkc_133
  | 14, _ => exact tqkc_134
  | 15, _ => exact tqkc_135
  | 16, _ => exact tqkc_136
  | 17, _ => exact tqkc_137
  | 18, _ => exact tqkc_138
  | 19, _ => exact tqkc_139
  | _ + 20, hi => exact absurd hi (by omega)
theorem tqkcz_140 : ∀ i, i < 20 → tqkcP (i + 140) := fun i hi => by
  match i, hi with
  | 0, _ => exact tqkc_140
  | 1, _ => exact tqkc_141
  | 2, _ => exact tqkc_142
  | 3, _ => exact tqkc_143
  | 4, _ => exact tqkc_144
  | 5, _ => exact tqkc_145
  | 6, _ => exact tqkc_146
  | 7, _ => exact tqkc_147
  | 8, _ => exact tqkc_148
  | 9, _ => exact tqkc_149
  | 10, _ => exact tqkc_150
  | 11, _ => exact tqkc_151
  | 12, _ => exact tqkc_152
  | 13, _ => exact tqkc_153
  | 14, _ => exact tqkc_154
  | 15, _ => exact tqkc_155
  | 16, _ => exact tqkc_156
  | 17, _ => exact tqkc_157
  | 18, _ => exact tqkc_158
  | 19, _ => exact tqkc_159
  | _ + 20, hi => exact absurd hi (by omega)
theorem tqkcz_160 : ∀ i, i < 20 → tqkcP (i + 160) := fun i hi => by
  match i, hi with
  | 0, _ => exact tqkc_160
  | 1, _ => exact tqkc_161
  | 2, _ => exact tqkc_162
  | 3, _ => exact tqkc_163
  | 4, _ => exact tqkc_164
  | 5, _ => exact tqkc_165
  | 6, _ => exact tqkc_166
  | 7, _ => exact tqkc_167
  | 8, _ => exact tqkc_168
  | 9, _ => exact tqkc_169
  | 10, _ => exact tqkc_170
  | 11, _ => exact tqkc_171
  | 12, _ => exact tqkc_172
  | 13, _ => exact tqkc_173
  | 14, _ => exact tqkc_174
  | 15, _ => exact tqkc_175
  | 16, _ => exact tqkc_176
  | 17, _ => exact tqkc_177
  | 18, _ => exact tqkc_178
  | 19, _ => exact tqkc_179
  | _ + 20, hi => exact absurd hi (by omega)
theorem tqkcz_180 : ∀ i, i < 20 → tqkcP (i + 180) := fun i hi => by
  match i, hi with
  | 0, _ => exact tqkc_180
  | 1, _ => exact tqkc_181
  | 2, _ => exact tqkc_182
  | 3, _ => exact tqkc_183
  | 4, _ => exact tqkc_184
  | 5, _ => exact tqkc_185
  | 6, _ => exact tqkc_186
  | 7, _ => exact tqkc_187
  | 8, _ => exact tqkc_188
  | 9, _ => exact tqkc_189
  | 10, _ => exact tqkc_190
  | 11, _ => exact tqkc_191
  | 12, _ => exact tqkc_192
  | 13, _ => exact tqkc_193
  | 14, _ => exact tqkc_194
  | 15, _ => exact tqkc_195
  | 16, _ => exact tqkc_196
  | 17, _ => exact tqkc_197
  | 18, _ => exact tqkc_198
  | 19, _ => exact tqkc_199
  | _ + 20, hi => exact absurd hi (by omega)
theorem tqkcz_200 : ∀ i, i < 20 → tqkcP (i + 200) := fun i hi => by
  match i, hi with
  | 0, _ => exact tqkc_200
  | 1, _ => exact tqkc_201
  | 2, _ => exact tqkc_202
  | 3, _ => exact tqkc_203
  | 4, _ => exact tqkc_204
  | 5, _ => exact tqkc_205
  | 6, _ => exact tqkc_206
  | 7, _ => exact tqkc_207
  | 8, _ => exact tqkc_208
  | 9, _ => exact tqkc_209
  | 10, _ => exact tqkc_210
  | 11, _ => exact tqkc_211
  | 12, _ => exact tqkc_212
  | 13, _ => exact tqkc_213
  | 14, _ => exact tqkc_214
  | 15, _ => exact tqkc_215
  | 16, _ => exact tqkc_216
  | 17, _ => exact tqkc_217
  | 18, _ => exact tqkc_218
  | 19, _ => exact tqkc_219
  | _ + 20, hi => exact absurd hi (by omega)
theorem tqkcz_220 : ∀ i, i < 20 → tqkcP (i + 220) := fun i hi => by
  match i, hi with
  | 0, _ => exact tqkc_220
  | 1, _ => exact tqkc_221
  | 2, _ => exact tqkc_222
  | 3, _ => exact tqkc_223
  | 4, _ => exact tqkc_224
  | 5, _ => exact tqkc_225
  | 6, _ => exact tqkc_226
  | 7, _ => exact tqkc_227
  | 8, _ => exact tqkc_228
  | 9, _ => exact tqkc_229
  | 10, _ => exact tqkc_230
  | 11, _ => exact tqkc_231
  | 12, _ => exact tqkc_232
  | 13, _ => exact tqkc_233
  | 14, _ => exact tqkc_234
  | 15, _ => exact tqkc_235
  | 16, _ => exact tqkc_236
  | 17, _ => exact tqkc_237
  | 18, _ => exact tqkc_238
  | 19, _ => exact tqkc_239
  | _ + 20, hi => exact absurd hi (by omega)
theorem tqkcz_240 : ∀ i, i < 15 → tqkcP (i + 240) := fun i hi => by
  match i, hi with
  | 0, _ => exact tqkc_240
  | 1, _ => exact tqkc_241
  | 2, _ => exact tqkc_242
  | 3, _ => exact tqkc_243
  | 4, _ => exact tqkc_244
  | 5, _ => exact tqkc_245
  | 6, _ => exact tqkc_246
  | 7, _ => exact tqkc_247
  | 8, _ => exact tqkc_248
  | 9, _ => exact tqkc_249
  | 10, _ => exact tqkc_250
  | 11, _ => exact tqkc_251
  | 12, _ => exact tqkc_252
  | 13, _ => exact tqkc_253
  | 14, _ => exact tqkc_254
  | _ + 15, hi => exact absurd hi (by omega)
theorem tqkc_all (k : Nat) (hk : k < 255) : tqkcP k := by
  by_cases h120 : k < 120
  · skip
    by_cases h60 : k < 60
    · skip
      by_cases h20 : k < 20
      · skip
        have e : k = (k - 0) + 0 := by omega
        rw [e]
        exact tqkcz_0 (k - 0) (by omega)
      · skip
        by_cases h40 : k < 40
        · skip
          have e : k = (k - 20) + 20 := by omega
          rw [e]
          exact tqkcz_20 (k - 20) (by omega)
        · skip
          have e : k = (k - 40) + 40 := by omega
          rw [e]
          exact tqkcz_40 (k - 40) (by omega)
    · skip
      by_cases h80 : k < 80
      · skip
        have e : k = (k - 60) + 60 := by omega
        rw [e]
        exact tqkcz_60 (k - 60) (by omega)
      · skip
        by_cases h100 : k < 100
        · skip
          have e : k = (k - 80) + 80 := by omega
          rw [e]
          exact tqkcz_80 (k - 80) (by omega)
        · skip
          have e : k = (k - 100) + 100 := by omega
          rw [e]
          exact tqkcz_100 (k - 100) (by omega)
  · skip
    by_cases h180 : k < 180
    · skip
      by_cases h140 : k < 140
      · skip
        have e : k = (k - 120) + 120 := by omega
        rw [e]
        exact tqkcz_120 (k - 120) (by omega)
      · skip
        by_cases h160 : k < 160
        · skip
          have e : k = (k - 140) + 140 := by omega
          rw [e]
          exact tqkcz_140 (k - 140) (by omega)
        · skip
          have e : k = (k - 160) + 160 := by omega
          rw [e]
          exact tqkcz_160 (k - 160) (by omega)
    · skip
      by_cases h220 : k < 220
      · skip
        by_cases h200 : k < 200
        · skip
          have e : k = (k - 180) + 180 := by omega
          rw [e]
          exact tqkcz_180 (k - 180) (by omega)
        · skip
          have e : k = (k - 200) + 200 := by omega
          rw [e]
          exact tqkcz_200 (k - 200) (by omega)
      · skip
        by_cases h240 : k < 240
        · skip
          have e : k = (k - 220) + 220 := by omega
          rw [e]
          exact tqkcz_220 (k - 220) (by omega)
        · skip
          have e : k = (k - 240) + 240 := by omega
          rw [e]
          exact tqkcz_240 (k - 240) (by omega)

