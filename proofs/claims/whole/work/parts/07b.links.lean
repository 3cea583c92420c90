def tqMl : List (MethodName × ByteArray × Nat × Option Jvm.ClassFile.FieldType) := [
(⟨"TrailerYards$Answers", "<init>", "()V"⟩, prog_2_method_1_code, 1, (Option.none : Option Jvm.ClassFile.FieldType)),
  (⟨"TrailerYards$Answers", "tellFraction", "(JJ)V"⟩, prog_2_method_2_code, 7, (Option.none : Option Jvm.ClassFile.FieldType)),
  (⟨"TrailerYards$Answers", "commonDivisor", "(JJ)J"⟩, prog_2_method_3_code, 11, (Option.some Jvm.ClassFile.FieldType.long)),
  (⟨"TrailerYards$Book", "<init>", "()V"⟩, prog_3_method_1_code, 1, (Option.none : Option Jvm.ClassFile.FieldType)),
  (⟨"TrailerYards$Book", "isFull", "()Z"⟩, prog_3_method_2_code, 1, (Option.some Jvm.ClassFile.FieldType.boolean)),
  (⟨"TrailerYards$Book", "enter", "(IIII)V"⟩, prog_3_method_3_code, 5, (Option.none : Option Jvm.ClassFile.FieldType)),
  (⟨"TrailerYards$Book", "isOf", "(III)Z"⟩, prog_3_method_4_code, 4, (Option.some Jvm.ClassFile.FieldType.boolean)),
  (⟨"TrailerYards$Book", "entryOf", "(II)I"⟩, prog_3_method_5_code, 5, (Option.some Jvm.ClassFile.FieldType.int)),
  (⟨"TrailerYards$Book", "says", "(II)I"⟩, prog_3_method_6_code, 3, (Option.some Jvm.ClassFile.FieldType.int)),
  (⟨"TrailerYards$Book", "placeAt", "(II)I"⟩, prog_3_method_7_code, 5, (Option.some Jvm.ClassFile.FieldType.int)),
  (⟨"TrailerYards$Book", "stoodTill", "(II)I"⟩, prog_3_method_8_code, 5, (Option.some Jvm.ClassFile.FieldType.int)),
  (⟨"TrailerYards$Book", "foundBroken", "(I)I"⟩, prog_3_method_9_code, 3, (Option.some Jvm.ClassFile.FieldType.int)),
  (⟨"TrailerYards$Book", "seenWholeAhead", "(II)I"⟩, prog_3_method_10_code, 4, (Option.some Jvm.ClassFile.FieldType.int)),
  (⟨"TrailerYards$Book", "holdersBetween", "(III)I"⟩, prog_3_method_11_code, 7, (Option.some Jvm.ClassFile.FieldType.int)),
  (⟨"TrailerYards$Book", "latestYard", "(I)I"⟩, prog_3_method_12_code, 3, (Option.some Jvm.ClassFile.FieldType.int)),
  (⟨"TrailerYards$Book", "latestHeld", "(I)I"⟩, prog_3_method_13_code, 3, (Option.some Jvm.ClassFile.FieldType.int)),
  (⟨"TrailerYards$Book", "mixInto", "(J)J"⟩, prog_3_method_14_code, 6, (Option.some Jvm.ClassFile.FieldType.long)),
  (⟨"TrailerYards$Line", "<init>", "()V"⟩, prog_4_method_1_code, 1, (Option.none : Option Jvm.ClassFile.FieldType)),
  (⟨"TrailerYards$Line", "isMissing", "()Z"⟩, prog_4_method_2_code, 1, (Option.some Jvm.ClassFile.FieldType.boolean)),
  (⟨"TrailerYards$Line", "has", "(I)Z"⟩, prog_4_method_3_code, 2, (Option.some Jvm.ClassFile.FieldType.boolean)),
  (⟨"TrailerYards$Line", "hasSpan", "(II)Z"⟩, prog_4_method_4_code, 3, (Option.some Jvm.ClassFile.FieldType.boolean)),
  (⟨"TrailerYards$Line", "allWithin", "(II)Z"⟩, prog_4_method_5_code, 4, (Option.some Jvm.ClassFile.FieldType.boolean)),
  (⟨"TrailerYards$Line", "placesAboveNought", "()I"⟩, prog_4_method_6_code, 3, (Option.some Jvm.ClassFile.FieldType.int)),
  (⟨"TrailerYards$Line", "warmOnes", "(IZ)I"⟩, prog_4_method_7_code, 5, (Option.some Jvm.ClassFile.FieldType.int)),
  (⟨"TrailerYards$Line", "longestWarm", "(I)I"⟩, prog_4_method_8_code, 5, (Option.some Jvm.ClassFile.FieldType.int)),
  (⟨"TrailerYards$Pool", "<init>", "()V"⟩, prog_5_method_1_code, 1, (Option.none : Option Jvm.ClassFile.FieldType)),
  (⟨"TrailerYards$Pool", "share", "(LTrailerYards$Ways;I[I[I)V"⟩, prog_5_method_2_code, 7, (Option.none : Option Jvm.ClassFile.FieldType)),
  (⟨"TrailerYards$Pool", "measure", "(LTrailerYards$Ways;I)V"⟩, prog_5_method_3_code, 5, (Option.none : Option Jvm.ClassFile.FieldType)),
  (⟨"TrailerYards$Pool", "findPaths", "()V"⟩, prog_5_method_4_code, 6, (Option.none : Option Jvm.ClassFile.FieldType)),
  (⟨"TrailerYards$Pool", "shorten", "(III)Z"⟩, prog_5_method_5_code, 4, (Option.some Jvm.ClassFile.FieldType.boolean)),
  (⟨"TrailerYards$Pool", "nearestLacking", "()I"⟩, prog_5_method_6_code, 3, (Option.some Jvm.ClassFile.FieldType.int)),
  (⟨"TrailerYards$Pool", "bring", "(I)V"⟩, prog_5_method_7_code, 5, (Option.none : Option Jvm.ClassFile.FieldType)),
  (⟨"TrailerYards$Pool", "lack", "()I"⟩, prog_5_method_8_code, 3, (Option.some Jvm.ClassFile.FieldType.int)),
  (⟨"TrailerYards$Rents", "<init>", "()V"⟩, prog_6_method_1_code, 1, (Option.none : Option Jvm.ClassFile.FieldType)),
  (⟨"TrailerYards$Rents", "setPrices", "(IIII)V"⟩, prog_6_method_2_code, 5, (Option.none : Option Jvm.ClassFile.FieldType)),
  (⟨"TrailerYards$Rents", "planDays", "([II)I"⟩, prog_6_method_3_code, 5, (Option.some Jvm.ClassFile.FieldType.int)),
  (⟨"TrailerYards$Rents", "firstBest", "(III)I"⟩, prog_6_method_4_code, 7, (Option.some Jvm.ClassFile.FieldType.int)),
  (⟨"TrailerYards$Rents", "costFrom", "(IIII)I"⟩, prog_6_method_5_code, 7, (Option.some Jvm.ClassFile.FieldType.int)),
  (⟨"TrailerYards$Search", "<init>", "()V"⟩, prog_7_method_1_code, 1, (Option.none : Option Jvm.ClassFile.FieldType)),
  (⟨"TrailerYards$Search", "order", "(LTrailerYards$Ways;III[I)Z"⟩, prog_7_method_2_code, 7, (Option.some Jvm.ClassFile.FieldType.boolean)),
  (⟨"TrailerYards$Search", "goOn", "(LTrailerYards$Search;LTrailerYards$Ways;IIIII)V"⟩, prog_7_method_3_code, 10, (Option.none : Option Jvm.ClassFile.FieldType)),
  (⟨"TrailerYards$Search", "straight", "([II)I"⟩, prog_7_method_4_code, 5, (Option.some Jvm.ClassFile.FieldType.int)),
  (⟨"TrailerYards$Swaps", "<init>", "()V"⟩, prog_8_method_1_code, 1, (Option.none : Option Jvm.ClassFile.FieldType)),
  (⟨"TrailerYards$Swaps", "meet", "(LTrailerYards$Ways;IIIII)V"⟩, prog_8_method_2_code, 12, (Option.none : Option Jvm.ClassFile.FieldType)),
  (⟨"TrailerYards$Swaps", "pairUp", "(LTrailerYards$Ways;I[LTrailerYards$Tractor;[II)I"⟩, prog_8_method_3_code, 8, (Option.some Jvm.ClassFile.FieldType.int)),
  (⟨"TrailerYards$Swaps", "partOut", "(LTrailerYards$Swaps;III)V"⟩, prog_8_method_4_code, 7, (Option.none : Option Jvm.ClassFile.FieldType)),
  (⟨"TrailerYards$Swaps", "leastOf", "(I)I"⟩, prog_8_method_5_code, 2, (Option.some Jvm.ClassFile.FieldType.int)),
  (⟨"TrailerYards$Terms", "<init>", "()V"⟩, prog_9_method_1_code, 1, (Option.none : Option Jvm.ClassFile.FieldType)),
  (⟨"TrailerYards$Terms", "isFull", "()Z"⟩, prog_9_method_2_code, 1, (Option.some Jvm.ClassFile.FieldType.boolean)),
  (⟨"TrailerYards$Terms", "read", "(LTrailerYards$Line;)I"⟩, prog_9_method_3_code, 9, (Option.some Jvm.ClassFile.FieldType.int)),
  (⟨"TrailerYards$Terms", "addDigit", "(III)V"⟩, prog_9_method_4_code, 4, (Option.none : Option Jvm.ClassFile.FieldType)),
  (⟨"TrailerYards$Terms", "thingOf", "(I)I"⟩, prog_9_method_5_code, 1, (Option.some Jvm.ClassFile.FieldType.int)),
  (⟨"TrailerYards$Terms", "keep", "(II)I"⟩, prog_9_method_6_code, 3, (Option.some Jvm.ClassFile.FieldType.int)),
  (⟨"TrailerYards$Terms", "inForce", "(III)I"⟩, prog_9_method_7_code, 7, (Option.some Jvm.ClassFile.FieldType.int)),
  (⟨"TrailerYards$Terms", "atFirst", "(I)I"⟩, prog_9_method_8_code, 1, (Option.some Jvm.ClassFile.FieldType.int)),
  (⟨"TrailerYards$Terms", "mixInto", "(J)J"⟩, prog_9_method_9_code, 6, (Option.some Jvm.ClassFile.FieldType.long)),
  (⟨"TrailerYards$Tractor", "<init>", "()V"⟩, prog_10_method_1_code, 1, (Option.none : Option Jvm.ClassFile.FieldType)),
  (⟨"TrailerYards$Tractor", "isOnTheWay", "(I)Z"⟩, prog_10_method_2_code, 2, (Option.some Jvm.ClassFile.FieldType.boolean)),
  (⟨"TrailerYards$Tractor", "says", "(I)I"⟩, prog_10_method_3_code, 2, (Option.some Jvm.ClassFile.FieldType.int)),
  (⟨"TrailerYards$Trailer", "<init>", "(IIII)V"⟩, prog_11_method_1_code, 5, (Option.none : Option Jvm.ClassFile.FieldType)),
  (⟨"TrailerYards$Trailer", "isOf", "(I)Z"⟩, prog_11_method_2_code, 2, (Option.some Jvm.ClassFile.FieldType.boolean)),
  (⟨"TrailerYards$Trailer", "says", "(I)I"⟩, prog_11_method_3_code, 2, (Option.some Jvm.ClassFile.FieldType.int)),
  (⟨"TrailerYards$Trailer", "isLawfulAt", "(III)Z"⟩, prog_11_method_4_code, 5, (Option.some Jvm.ClassFile.FieldType.boolean)),
  (⟨"TrailerYards$Ways", "<init>", "()V"⟩, prog_12_method_1_code, 1, (Option.none : Option Jvm.ClassFile.FieldType)),
  (⟨"TrailerYards$Ways", "joins", "(II)Z"⟩, prog_12_method_2_code, 3, (Option.some Jvm.ClassFile.FieldType.boolean)),
  (⟨"TrailerYards$Ways", "join", "(IIII)V"⟩, prog_12_method_3_code, 5, (Option.none : Option Jvm.ClassFile.FieldType)),
  (⟨"TrailerYards$Ways", "makeFerry", "(IIII)V"⟩, prog_12_method_4_code, 5, (Option.none : Option Jvm.ClassFile.FieldType)),
  (⟨"TrailerYards$Ways", "arrival", "(III)I"⟩, prog_12_method_5_code, 4, (Option.some Jvm.ClassFile.FieldType.int)),
  (⟨"TrailerYards$Ways", "leastToll", "(II)I"⟩, prog_12_method_6_code, 3, (Option.some Jvm.ClassFile.FieldType.int)),
  (⟨"TrailerYards$Ways", "inReach", "(III)I"⟩, prog_12_method_7_code, 6, (Option.some Jvm.ClassFile.FieldType.int)),
  (⟨"TrailerYards$Ways", "reach", "(IIZ[I)V"⟩, prog_12_method_8_code, 9, (Option.none : Option Jvm.ClassFile.FieldType)),
  (⟨"TrailerYards$Ways", "nearest", "([II)I"⟩, prog_12_method_9_code, 5, (Option.some Jvm.ClassFile.FieldType.int)),
  (⟨"TrailerYards$Ways", "next", "(IIZ)I"⟩, prog_12_method_10_code, 6, (Option.some Jvm.ClassFile.FieldType.int)),
  (⟨"TrailerYards$Ways", "mixInto", "(J)J"⟩, prog_12_method_11_code, 8, (Option.some Jvm.ClassFile.FieldType.long)),
  (⟨"TrailerYards", "<init>", "()V"⟩, prog_1_method_1_code, 2, (Option.none : Option Jvm.ClassFile.FieldType)),
  (⟨"TrailerYards", "row", "(II)I"⟩, prog_1_method_2_code, 3, (Option.some Jvm.ClassFile.FieldType.int)),
  (⟨"TrailerYards", "lay", "(III)I"⟩, prog_1_method_3_code, 6, (Option.some Jvm.ClassFile.FieldType.int)),
  (⟨"TrailerYards", "tear", "(I)I"⟩, prog_1_method_4_code, 3, (Option.some Jvm.ClassFile.FieldType.int)),
  (⟨"TrailerYards", "copy", "(IIIII)I"⟩, prog_1_method_5_code, 8, (Option.some Jvm.ClassFile.FieldType.int)),
  (⟨"TrailerYards", "text", "(II)I"⟩, prog_1_method_6_code, 3, (Option.some Jvm.ClassFile.FieldType.int)),
  (⟨"TrailerYards", "put", "(III)I"⟩, prog_1_method_7_code, 6, (Option.some Jvm.ClassFile.FieldType.int)),
  (⟨"TrailerYards", "fault", "(I)I"⟩, prog_1_method_8_code, 3, (Option.some Jvm.ClassFile.FieldType.int)),
  (⟨"TrailerYards", "later", "(I)I"⟩, prog_1_method_9_code, 2, (Option.some Jvm.ClassFile.FieldType.int)),
  (⟨"TrailerYards", "way", "(IIII)I"⟩, prog_1_method_10_code, 5, (Option.some Jvm.ClassFile.FieldType.int)),
  (⟨"TrailerYards", "ferry", "(IIII)I"⟩, prog_1_method_11_code, 5, (Option.some Jvm.ClassFile.FieldType.int)),
  (⟨"TrailerYards", "comes", "(III)I"⟩, prog_1_method_12_code, 4, (Option.some Jvm.ClassFile.FieldType.int)),
  (⟨"TrailerYards", "toll", "(II)I"⟩, prog_1_method_13_code, 3, (Option.some Jvm.ClassFile.FieldType.int)),
  (⟨"TrailerYards", "trailer", "(III)I"⟩, prog_1_method_14_code, 5, (Option.some Jvm.ClassFile.FieldType.int)),
  (⟨"TrailerYards", "told", "(II)I"⟩, prog_1_method_15_code, 4, (Option.some Jvm.ClassFile.FieldType.int)),
  (⟨"TrailerYards", "mark", "(II)I"⟩, prog_1_method_16_code, 4, (Option.some Jvm.ClassFile.FieldType.int)),
  (⟨"TrailerYards", "limit", "(II)I"⟩, prog_1_method_17_code, 5, (Option.some Jvm.ClassFile.FieldType.int)),
  (⟨"TrailerYards", "park", "(II)I"⟩, prog_1_method_18_code, 4, (Option.some Jvm.ClassFile.FieldType.int)),
  (⟨"TrailerYards", "hitch", "(II)I"⟩, prog_1_method_19_code, 5, (Option.some Jvm.ClassFile.FieldType.int)),
  (⟨"TrailerYards", "drop", "(I)I"⟩, prog_1_method_20_code, 5, (Option.some Jvm.ClassFile.FieldType.int)),
  (⟨"TrailerYards", "go", "(II)I"⟩, prog_1_method_21_code, 8, (Option.some Jvm.ClassFile.FieldType.int)),
  (⟨"TrailerYards", "tractor", "(II)I"⟩, prog_1_method_22_code, 4, (Option.some Jvm.ClassFile.FieldType.int)),
  (⟨"TrailerYards", "lose", "(I)I"⟩, prog_1_method_23_code, 4, (Option.some Jvm.ClassFile.FieldType.int)),
  (⟨"TrailerYards", "find", "(II)I"⟩, prog_1_method_24_code, 4, (Option.some Jvm.ClassFile.FieldType.int)),
  (⟨"TrailerYards", "seal", "(II)I"⟩, prog_1_method_25_code, 4, (Option.some Jvm.ClassFile.FieldType.int)),
  (⟨"TrailerYards", "book", "(III)I"⟩, prog_1_method_26_code, 5, (Option.some Jvm.ClassFile.FieldType.int)),
  (⟨"TrailerYards", "where", "(II)I"⟩, prog_1_method_27_code, 3, (Option.some Jvm.ClassFile.FieldType.int)),
  (⟨"TrailerYards", "terms", "(II)I"⟩, prog_1_method_28_code, 4, (Option.some Jvm.ClassFile.FieldType.int)),
  (⟨"TrailerYards", "force", "(IIII)I"⟩, prog_1_method_29_code, 5, (Option.some Jvm.ClassFile.FieldType.int)),
  (⟨"TrailerYards", "detention", "(I)I"⟩, prog_1_method_30_code, 10, (Option.some Jvm.ClassFile.FieldType.int)),
  (⟨"TrailerYards", "pence", "()J"⟩, prog_1_method_31_code, 1, (Option.some Jvm.ClassFile.FieldType.long)),
  (⟨"TrailerYards", "law", "(II)I"⟩, prog_1_method_32_code, 3, (Option.some Jvm.ClassFile.FieldType.int)),
  (⟨"TrailerYards", "load", "(III)I"⟩, prog_1_method_33_code, 5, (Option.some Jvm.ClassFile.FieldType.int)),
  (⟨"TrailerYards", "unload", "(I)I"⟩, prog_1_method_34_code, 4, (Option.some Jvm.ClassFile.FieldType.int)),
  (⟨"TrailerYards", "slide", "(II)I"⟩, prog_1_method_35_code, 5, (Option.some Jvm.ClassFile.FieldType.int)),
  (⟨"TrailerYards", "weight", "(IZ)I"⟩, prog_1_method_36_code, 4, (Option.some Jvm.ClassFile.FieldType.int)),
  (⟨"TrailerYards", "lawful", "(I)I"⟩, prog_1_method_37_code, 3, (Option.some Jvm.ClassFile.FieldType.int)),
  (⟨"TrailerYards", "shift", "(I)I"⟩, prog_1_method_38_code, 4, (Option.some Jvm.ClassFile.FieldType.int)),
  (⟨"TrailerYards", "cold", "(III)I"⟩, prog_1_method_39_code, 6, (Option.some Jvm.ClassFile.FieldType.int)),
  (⟨"TrailerYards", "mean", "(I)I"⟩, prog_1_method_40_code, 7, (Option.some Jvm.ClassFile.FieldType.int)),
  (⟨"TrailerYards", "theft", "(I)I"⟩, prog_1_method_41_code, 4, (Option.some Jvm.ClassFile.FieldType.int)),
  (⟨"TrailerYards", "hands", "(I)I"⟩, prog_1_method_42_code, 5, (Option.some Jvm.ClassFile.FieldType.int)),
  (⟨"TrailerYards", "swap", "(IIII)I"⟩, prog_1_method_43_code, 7, (Option.some Jvm.ClassFile.FieldType.int)),
  (⟨"TrailerYards", "pairs", "(II)I"⟩, prog_1_method_44_code, 6, (Option.some Jvm.ClassFile.FieldType.int)),
  (⟨"TrailerYards", "partner", "(I)I"⟩, prog_1_method_45_code, 2, (Option.some Jvm.ClassFile.FieldType.int)),
  (⟨"TrailerYards", "late", "(IIIIII)I"⟩, prog_1_method_46_code, 16, (Option.some Jvm.ClassFile.FieldType.int)),
  (⟨"TrailerYards", "canBe", "(I)I"⟩, prog_1_method_47_code, 3, (Option.some Jvm.ClassFile.FieldType.int)),
  (⟨"TrailerYards", "look", "(III)I"⟩, prog_1_method_48_code, 8, (Option.some Jvm.ClassFile.FieldType.int)),
  (⟨"TrailerYards", "looked", "(I)I"⟩, prog_1_method_49_code, 2, (Option.some Jvm.ClassFile.FieldType.int)),
  (⟨"TrailerYards", "pool", "(II)I"⟩, prog_1_method_50_code, 5, (Option.some Jvm.ClassFile.FieldType.int)),
  (⟨"TrailerYards", "rent", "(IIIII)I"⟩, prog_1_method_51_code, 7, (Option.some Jvm.ClassFile.FieldType.int)),
  (⟨"TrailerYards", "rented", "(I)I"⟩, prog_1_method_52_code, 2, (Option.some Jvm.ClassFile.FieldType.int)),
  (⟨"TrailerYards", "asked", "()I"⟩, prog_1_method_53_code, 1, (Option.some Jvm.ClassFile.FieldType.int)),
  (⟨"TrailerYards", "upper", "()J"⟩, prog_1_method_54_code, 1, (Option.some Jvm.ClassFile.FieldType.long)),
  (⟨"TrailerYards", "lower", "()J"⟩, prog_1_method_55_code, 1, (Option.some Jvm.ClassFile.FieldType.long)),
  (⟨"TrailerYards", "count", "(I)I"⟩, prog_1_method_56_code, 2, (Option.some Jvm.ClassFile.FieldType.int)),
  (⟨"TrailerYards", "finding", "()I"⟩, prog_1_method_57_code, 1, (Option.some Jvm.ClassFile.FieldType.int)),
  (⟨"TrailerYards", "findings", "(I)I"⟩, prog_1_method_58_code, 2, (Option.some Jvm.ClassFile.FieldType.int)),
  (⟨"TrailerYards", "digest", "()J"⟩, prog_1_method_59_code, 5, (Option.some Jvm.ClassFile.FieldType.long)),
  (⟨"TrailerYards", "isWithin", "(III)Z"⟩, prog_1_method_60_code, 3, (Option.some Jvm.ClassFile.FieldType.boolean)),
  (⟨"TrailerYards", "isYard", "(I)Z"⟩, prog_1_method_61_code, 1, (Option.some Jvm.ClassFile.FieldType.boolean)),
  (⟨"TrailerYards", "hasBit", "(II)Z"⟩, prog_1_method_62_code, 2, (Option.some Jvm.ClassFile.FieldType.boolean)),
  (⟨"TrailerYards", "dayOf", "(I)I"⟩, prog_1_method_63_code, 1, (Option.some Jvm.ClassFile.FieldType.int)),
  (⟨"TrailerYards", "mix", "(JJ)J"⟩, prog_1_method_64_code, 4, (Option.some Jvm.ClassFile.FieldType.long)),
  (⟨"TrailerYards", "mixLines", "(J[LTrailerYards$Line;)J"⟩, prog_1_method_65_code, 7, (Option.some Jvm.ClassFile.FieldType.long)),
  (⟨"TrailerYards", "linesThere", "([LTrailerYards$Line;)I"⟩, prog_1_method_66_code, 3, (Option.some Jvm.ClassFile.FieldType.int)),
  (⟨"TrailerYards", "lineAt", "([LTrailerYards$Line;I)LTrailerYards$Line;"⟩, prog_1_method_67_code, 2, (Option.some (Jvm.ClassFile.FieldType.object "TrailerYards$Line"))),
  (⟨"TrailerYards", "trailerAt", "(I)LTrailerYards$Trailer;"⟩, prog_1_method_68_code, 2, (Option.some (Jvm.ClassFile.FieldType.object "TrailerYards$Trailer"))),
  (⟨"TrailerYards", "tractorAt", "(I)LTrailerYards$Tractor;"⟩, prog_1_method_69_code, 2, (Option.some (Jvm.ClassFile.FieldType.object "TrailerYards$Tractor"))),
  (⟨"TrailerYards", "worthOf", "(I)I"⟩, prog_1_method_70_code, 3, (Option.some Jvm.ClassFile.FieldType.int)),
  (⟨"TrailerYards", "lostOnes", "()I"⟩, prog_1_method_71_code, 3, (Option.some Jvm.ClassFile.FieldType.int)),
  (⟨"TrailerYards", "canSwap", "(LTrailerYards$Tractor;)Z"⟩, prog_1_method_72_code, 2, (Option.some Jvm.ClassFile.FieldType.boolean)),
  (⟨"TrailerYards", "yardsInReach", "(I)I"⟩, prog_1_method_73_code, 2, (Option.some Jvm.ClassFile.FieldType.int)),
  (⟨"TrailerYards", "makeLine", "(LTrailerYards$Line;II)I"⟩, prog_1_method_74_code, 4, (Option.some Jvm.ClassFile.FieldType.int)),
  (⟨"TrailerYards", "tells", "(I)I"⟩, prog_1_method_75_code, 2, (Option.some Jvm.ClassFile.FieldType.int)),
  (⟨"TrailerYards", "refuse", "(I)I"⟩, prog_1_method_76_code, 2, (Option.some Jvm.ClassFile.FieldType.int)),
  (⟨"TrailerYards", "orNothing", "(I)I"⟩, prog_1_method_77_code, 2, (Option.some Jvm.ClassFile.FieldType.int)),
  (⟨"TrailerYardsModel", "<init>", "()V"⟩, prog_14_method_1_code, 2, (Option.none : Option Jvm.ClassFile.FieldType)),
  (⟨"TrailerYardsModel", "in", "(III)Z"⟩, prog_14_method_3_code, 3, (Option.some Jvm.ClassFile.FieldType.boolean)),
  (⟨"TrailerYardsModel", "meets", "(I)I"⟩, prog_14_method_4_code, 2, (Option.some Jvm.ClassFile.FieldType.int)),
  (⟨"TrailerYardsModel", "ask", "(II)I"⟩, prog_14_method_5_code, 3, (Option.some Jvm.ClassFile.FieldType.int)),
  (⟨"TrailerYardsModel", "share", "(JJ)I"⟩, prog_14_method_6_code, 11, (Option.some Jvm.ClassFile.FieldType.int)),
  (⟨"TrailerYardsModel", "day", "(I)I"⟩, prog_14_method_7_code, 1, (Option.some Jvm.ClassFile.FieldType.int)),
  (⟨"TrailerYardsModel", "isRow", "(I)Z"⟩, prog_14_method_8_code, 1, (Option.some Jvm.ClassFile.FieldType.boolean)),
  (⟨"TrailerYardsModel", "askedRow", "(I)I"⟩, prog_14_method_9_code, 2, (Option.some Jvm.ClassFile.FieldType.int)),
  (⟨"TrailerYardsModel", "row", "(II)I"⟩, prog_14_method_10_code, 4, (Option.some Jvm.ClassFile.FieldType.int)),
  (⟨"TrailerYardsModel", "lay", "(III)I"⟩, prog_14_method_11_code, 5, (Option.some Jvm.ClassFile.FieldType.int)),
  (⟨"TrailerYardsModel", "tear", "(I)I"⟩, prog_14_method_12_code, 3, (Option.some Jvm.ClassFile.FieldType.int)),
  (⟨"TrailerYardsModel", "copy", "(IIIII)I"⟩, prog_14_method_13_code, 7, (Option.some Jvm.ClassFile.FieldType.int)),
  (⟨"TrailerYardsModel", "isText", "(I)Z"⟩, prog_14_method_14_code, 1, (Option.some Jvm.ClassFile.FieldType.boolean)),
  (⟨"TrailerYardsModel", "askedText", "(I)I"⟩, prog_14_method_15_code, 2, (Option.some Jvm.ClassFile.FieldType.int)),
  (⟨"TrailerYardsModel", "text", "(II)I"⟩, prog_14_method_16_code, 4, (Option.some Jvm.ClassFile.FieldType.int)),
  (⟨"TrailerYardsModel", "put", "(III)I"⟩, prog_14_method_17_code, 6, (Option.some Jvm.ClassFile.FieldType.int)),
  (⟨"TrailerYardsModel", "later", "(I)I"⟩, prog_14_method_18_code, 2, (Option.some Jvm.ClassFile.FieldType.int)),
  (⟨"TrailerYardsModel", "isYard", "(I)Z"⟩, prog_14_method_19_code, 1, (Option.some Jvm.ClassFile.FieldType.boolean)),
  (⟨"TrailerYardsModel", "setWay", "(IIIIII)V"⟩, prog_14_method_20_code, 8, (Option.none : Option Jvm.ClassFile.FieldType)),
  (⟨"TrailerYardsModel", "way", "(IIII)I"⟩, prog_14_method_21_code, 5, (Option.some Jvm.ClassFile.FieldType.int)),
  (⟨"TrailerYardsModel", "ferry", "(IIII)I"⟩, prog_14_method_22_code, 6, (Option.some Jvm.ClassFile.FieldType.int)),
  (⟨"TrailerYardsModel", "beyond", "(II)I"⟩, prog_14_method_23_code, 5, (Option.some Jvm.ClassFile.FieldType.int)),
  (⟨"TrailerYardsModel", "comesTo", "(III)I"⟩, prog_14_method_24_code, 8, (Option.some Jvm.ClassFile.FieldType.int)),
  (⟨"TrailerYardsModel", "comes", "(III)I"⟩, prog_14_method_25_code, 5, (Option.some Jvm.ClassFile.FieldType.int)),
  (⟨"TrailerYardsModel", "toll", "(II)I"⟩, prog_14_method_26_code, 6, (Option.some Jvm.ClassFile.FieldType.int)),
  (⟨"TrailerYardsModel", "enter", "(IIII)V"⟩, prog_14_method_27_code, 5, (Option.none : Option Jvm.ClassFile.FieldType)),
  (⟨"TrailerYardsModel", "isTrailer", "(I)Z"⟩, prog_14_method_28_code, 2, (Option.some Jvm.ClassFile.FieldType.boolean)),
  (⟨"TrailerYardsModel", "isTractor", "(I)Z"⟩, prog_14_method_29_code, 1, (Option.some Jvm.ClassFile.FieldType.boolean)),
  (⟨"TrailerYardsModel", "isWorth", "(I)Z"⟩, prog_14_method_30_code, 1, (Option.some Jvm.ClassFile.FieldType.boolean)),
  (⟨"TrailerYardsModel", "trailer", "(III)I"⟩, prog_14_method_31_code, 4, (Option.some Jvm.ClassFile.FieldType.int)),
  (⟨"TrailerYardsModel", "trailerTells", "(II)I"⟩, prog_14_method_32_code, 3, (Option.some Jvm.ClassFile.FieldType.int)),
  (⟨"TrailerYardsModel", "told", "(II)I"⟩, prog_14_method_33_code, 3, (Option.some Jvm.ClassFile.FieldType.int)),
  (⟨"TrailerYardsModel", "isCold", "(I)Z"⟩, prog_14_method_34_code, 2, (Option.some Jvm.ClassFile.FieldType.boolean)),
  (⟨"TrailerYardsModel", "entryFrom", "(II)I"⟩, prog_14_method_35_code, 4, (Option.some Jvm.ClassFile.FieldType.int)),
  (⟨"TrailerYardsModel", "mark", "(II)I"⟩, prog_14_method_36_code, 3, (Option.some Jvm.ClassFile.FieldType.int)),
  (⟨"TrailerYardsModel", "limit", "(II)I"⟩, prog_14_method_37_code, 3, (Option.some Jvm.ClassFile.FieldType.int)),
  (⟨"TrailerYardsModel", "isOnWay", "(I)Z"⟩, prog_14_method_38_code, 2, (Option.some Jvm.ClassFile.FieldType.boolean)),
  (⟨"TrailerYardsModel", "park", "(II)I"⟩, prog_14_method_39_code, 3, (Option.some Jvm.ClassFile.FieldType.int)),
  (⟨"TrailerYardsModel", "hitch", "(II)I"⟩, prog_14_method_40_code, 3, (Option.some Jvm.ClassFile.FieldType.int)),
  (⟨"TrailerYardsModel", "drop", "(I)I"⟩, prog_14_method_41_code, 3, (Option.some Jvm.ClassFile.FieldType.int)),
  (⟨"TrailerYardsModel", "go", "(II)I"⟩, prog_14_method_42_code, 6, (Option.some Jvm.ClassFile.FieldType.int)),
  (⟨"TrailerYardsModel", "tractorTells", "(II)I"⟩, prog_14_method_43_code, 3, (Option.some Jvm.ClassFile.FieldType.int)),
  (⟨"TrailerYardsModel", "tractor", "(II)I"⟩, prog_14_method_44_code, 3, (Option.some Jvm.ClassFile.FieldType.int)),
  (⟨"TrailerYardsModel", "lose", "(I)I"⟩, prog_14_method_45_code, 2, (Option.some Jvm.ClassFile.FieldType.int)),
  (⟨"TrailerYardsModel", "find", "(II)I"⟩, prog_14_method_46_code, 3, (Option.some Jvm.ClassFile.FieldType.int)),
  (⟨"TrailerYardsModel", "seal", "(II)I"⟩, prog_14_method_47_code, 3, (Option.some Jvm.ClassFile.FieldType.int)),
  (⟨"TrailerYardsModel", "book", "(III)I"⟩, prog_14_method_48_code, 6, (Option.some Jvm.ClassFile.FieldType.int)),
  (⟨"TrailerYardsModel", "where", "(II)I"⟩, prog_14_method_49_code, 5, (Option.some Jvm.ClassFile.FieldType.int)),
  (⟨"TrailerYardsModel", "isDigit", "(I)Z"⟩, prog_14_method_50_code, 1, (Option.some Jvm.ClassFile.FieldType.boolean)),
  (⟨"TrailerYardsModel", "reads", "(I)I"⟩, prog_14_method_51_code, 9, (Option.some Jvm.ClassFile.FieldType.int)),
  (⟨"TrailerYardsModel", "fault", "(I)I"⟩, prog_14_method_52_code, 3, (Option.some Jvm.ClassFile.FieldType.int)),
  (⟨"TrailerYardsModel", "isDay", "(I)Z"⟩, prog_14_method_53_code, 1, (Option.some Jvm.ClassFile.FieldType.boolean)),
  (⟨"TrailerYardsModel", "terms", "(II)I"⟩, prog_14_method_54_code, 4, (Option.some Jvm.ClassFile.FieldType.int)),
  (⟨"TrailerYardsModel", "inForce", "(IIII)I"⟩, prog_14_method_55_code, 9, (Option.some Jvm.ClassFile.FieldType.int)),
  (⟨"TrailerYardsModel", "force", "(IIII)I"⟩, prog_14_method_56_code, 5, (Option.some Jvm.ClassFile.FieldType.int)),
  (⟨"TrailerYardsModel", "detention", "(I)I"⟩, prog_14_method_57_code, 7, (Option.some Jvm.ClassFile.FieldType.int)),
  (⟨"TrailerYardsModel", "pence", "()J"⟩, prog_14_method_58_code, 1, (Option.some Jvm.ClassFile.FieldType.long)),
  (⟨"TrailerYardsModel", "law", "(II)I"⟩, prog_14_method_59_code, 3, (Option.some Jvm.ClassFile.FieldType.int)),
  (⟨"TrailerYardsModel", "load", "(III)I"⟩, prog_14_method_60_code, 4, (Option.some Jvm.ClassFile.FieldType.int)),
  (⟨"TrailerYardsModel", "unload", "(I)I"⟩, prog_14_method_61_code, 3, (Option.some Jvm.ClassFile.FieldType.int)),
  (⟨"TrailerYardsModel", "isAxle", "(I)Z"⟩, prog_14_method_62_code, 1, (Option.some Jvm.ClassFile.FieldType.boolean)),
  (⟨"TrailerYardsModel", "slide", "(II)I"⟩, prog_14_method_63_code, 4, (Option.some Jvm.ClassFile.FieldType.int)),
  (⟨"TrailerYardsModel", "sumOf", "(IZ)J"⟩, prog_14_method_64_code, 6, (Option.some Jvm.ClassFile.FieldType.long)),
  (⟨"TrailerYardsModel", "liesOn", "(IIZ)J"⟩, prog_14_method_65_code, 4, (Option.some Jvm.ClassFile.FieldType.long)),
  (⟨"TrailerYardsModel", "weight", "(IZ)I"⟩, prog_14_method_66_code, 3, (Option.some Jvm.ClassFile.FieldType.int)),
  (⟨"TrailerYardsModel", "isLawful", "(II)Z"⟩, prog_14_method_67_code, 5, (Option.some Jvm.ClassFile.FieldType.boolean)),
  (⟨"TrailerYardsModel", "lawful", "(I)I"⟩, prog_14_method_68_code, 2, (Option.some Jvm.ClassFile.FieldType.int)),
  (⟨"TrailerYardsModel", "shift", "(I)I"⟩, prog_14_method_69_code, 3, (Option.some Jvm.ClassFile.FieldType.int)),
  (⟨"TrailerYardsModel", "cold", "(III)I"⟩, prog_14_method_70_code, 12, (Option.some Jvm.ClassFile.FieldType.int)),
  (⟨"TrailerYardsModel", "mean", "(I)I"⟩, prog_14_method_71_code, 8, (Option.some Jvm.ClassFile.FieldType.int)),
  (⟨"TrailerYardsModel", "findTheft", "(I)Z"⟩, prog_14_method_72_code, 3, (Option.some Jvm.ClassFile.FieldType.boolean)),
  (⟨"TrailerYardsModel", "theft", "(I)I"⟩, prog_14_method_73_code, 2, (Option.some Jvm.ClassFile.FieldType.int)),
  (⟨"TrailerYardsModel", "bits", "(I)I"⟩, prog_14_method_74_code, 3, (Option.some Jvm.ClassFile.FieldType.int)),
  (⟨"TrailerYardsModel", "hands", "(I)I"⟩, prog_14_method_75_code, 5, (Option.some Jvm.ClassFile.FieldType.int)),
  (⟨"TrailerYardsModel", "swapsAt", "(IIIIII)Z"⟩, prog_14_method_76_code, 10, (Option.some Jvm.ClassFile.FieldType.boolean)),
  (⟨"TrailerYardsModel", "maySwap", "(I)Z"⟩, prog_14_method_77_code, 2, (Option.some Jvm.ClassFile.FieldType.boolean)),
  (⟨"TrailerYardsModel", "bestSwap", "(IIII)I"⟩, prog_14_method_78_code, 8, (Option.some Jvm.ClassFile.FieldType.int)),
  (⟨"TrailerYardsModel", "swap", "(IIII)I"⟩, prog_14_method_79_code, 6, (Option.some Jvm.ClassFile.FieldType.int)),
  (⟨"TrailerYardsModel", "pairEnd", "(III)I"⟩, prog_14_method_80_code, 5, (Option.some Jvm.ClassFile.FieldType.int)),
  (⟨"TrailerYardsModel", "pairs", "(II)I"⟩, prog_14_method_81_code, 10, (Option.some Jvm.ClassFile.FieldType.int)),
  (⟨"TrailerYardsModel", "partWays", "(III)I"⟩, prog_14_method_82_code, 10, (Option.some Jvm.ClassFile.FieldType.int)),
  (⟨"TrailerYardsModel", "partner", "(I)I"⟩, prog_14_method_83_code, 2, (Option.some Jvm.ClassFile.FieldType.int)),
  (⟨"TrailerYardsModel", "late", "(IIIIII)I"⟩, prog_14_method_84_code, 13, (Option.some Jvm.ClassFile.FieldType.int)),
  (⟨"TrailerYardsModel", "yardsOf", "(I)I"⟩, prog_14_method_85_code, 5, (Option.some Jvm.ClassFile.FieldType.int)),
  (⟨"TrailerYardsModel", "canBe", "(I)I"⟩, prog_14_method_86_code, 2, (Option.some Jvm.ClassFile.FieldType.int)),
  (⟨"TrailerYardsModel", "nextOrder", "(I)Z"⟩, prog_14_method_87_code, 8, (Option.some Jvm.ClassFile.FieldType.boolean)),
  (⟨"TrailerYardsModel", "look", "(III)I"⟩, prog_14_method_88_code, 14, (Option.some Jvm.ClassFile.FieldType.int)),
  (⟨"TrailerYardsModel", "looked", "(I)I"⟩, prog_14_method_89_code, 2, (Option.some Jvm.ClassFile.FieldType.int)),
  (⟨"TrailerYardsModel", "nextBrought", "()I"⟩, prog_14_method_90_code, 5, (Option.some Jvm.ClassFile.FieldType.int)),
  (⟨"TrailerYardsModel", "pool", "(II)I"⟩, prog_14_method_91_code, 8, (Option.some Jvm.ClassFile.FieldType.int)),
  (⟨"TrailerYardsModel", "costOf", "(IIIIIII)J"⟩, prog_14_method_92_code, 9, (Option.some Jvm.ClassFile.FieldType.long)),
  (⟨"TrailerYardsModel", "rent", "(IIIII)I"⟩, prog_14_method_93_code, 14, (Option.some Jvm.ClassFile.FieldType.int)),
  (⟨"TrailerYardsModel", "rented", "(I)I"⟩, prog_14_method_94_code, 2, (Option.some Jvm.ClassFile.FieldType.int)),
  (⟨"TrailerYardsModel", "asked", "()I"⟩, prog_14_method_95_code, 1, (Option.some Jvm.ClassFile.FieldType.int)),
  (⟨"TrailerYardsModel", "upper", "()J"⟩, prog_14_method_96_code, 1, (Option.some Jvm.ClassFile.FieldType.long)),
  (⟨"TrailerYardsModel", "lower", "()J"⟩, prog_14_method_97_code, 1, (Option.some Jvm.ClassFile.FieldType.long)),
  (⟨"TrailerYardsModel", "counts", "(I)I"⟩, prog_14_method_98_code, 4, (Option.some Jvm.ClassFile.FieldType.int)),
  (⟨"TrailerYardsModel", "count", "(I)I"⟩, prog_14_method_99_code, 2, (Option.some Jvm.ClassFile.FieldType.int)),
  (⟨"TrailerYardsModel", "finding", "()I"⟩, prog_14_method_100_code, 1, (Option.some Jvm.ClassFile.FieldType.int)),
  (⟨"TrailerYardsModel", "findings", "(I)I"⟩, prog_14_method_101_code, 2, (Option.some Jvm.ClassFile.FieldType.int)),
  (⟨"TrailerYardsModel", "mix", "(I)V"⟩, prog_14_method_102_code, 2, (Option.none : Option Jvm.ClassFile.FieldType)),
  (⟨"TrailerYardsModel", "digest", "()J"⟩, prog_14_method_103_code, 3, (Option.some Jvm.ClassFile.FieldType.long)),
  (⟨"java/lang/Integer", "bitCount", "(I)I"⟩, prog_15_method_49_code, 1, (Option.some Jvm.ClassFile.FieldType.int)),
  (⟨"java/util/Arrays", "fill", "([II)V"⟩, prog_18_method_103_code, 4, (Option.none : Option Jvm.ClassFile.FieldType)),
  (x, code, maxLocals, ret)]
def tqmi (k : Nat) : MethodName × ByteArray × Nat × Option Jvm.ClassFile.FieldType := tqMl.getD k (x, code, maxLocals, ret)
def tqRn : Nat → String := fun k => match k with
  | 0 => tqR0
  | 1 => tqR1
  | 2 => tqR2
  | 3 => tqR3
  | 4 => tqR4
  | 5 => tqR5
  | 6 => tqR6
  | 7 => tqR7
  | 8 => tqR8
  | 9 => tqR9
  | 10 => tqR10
  | 11 => tqR11
  | 12 => tqR12
  | 13 => "TrailerYardsLaw"
  | 14 => "java/lang/Integer"
  | 15 => "java/lang/Math"
  | 16 => "java/lang/System"
  | _ => "java/util/Arrays"
def tqTn : Nat → u_T := fun k => match k with
  | 0 => tqT0
  | 1 => tqT1
  | 2 => tqT2
  | 3 => tqT3
  | 4 => tqT4
  | 5 => tqT5
  | 6 => tqT6
  | 7 => tqT7
  | 8 => tqT8
  | 9 => tqT9
  | 10 => tqT10
  | 11 => tqT11
  | _ => tqT12
def tqYn : Nat → (Nat → Jvm.ClassFile.FieldType) := fun k => match k with
  | 0 => tqY0
  | 1 => tqY1
  | 2 => tqY2
  | 3 => tqY3
  | 4 => tqY4
  | 5 => tqY5
  | 6 => tqY6
  | 7 => tqY7
  | 8 => tqY8
  | 9 => tqY9
  | 10 => tqY10
  | 11 => tqY11
  | _ => tqY12
/-- a method's class, by its number -/
def tqow (k : Nat) : Nat := ([0, 0, 0, 1, 1, 1, 1, 1, 1, 1, 1, 1, 1, 1, 1, 1, 1, 2, 2, 2, 2, 2, 2, 2, 2, 3, 3, 3, 3, 3, 3, 3, 3, 4, 4, 4, 4, 4, 5, 5, 5, 5, 6, 6, 6, 6, 6, 7, 7, 7, 7, 7, 7, 7, 7, 7, 8, 8, 8, 9, 9, 9, 9, 10, 10, 10, 10, 10, 10, 10, 10, 10, 10, 10, 11, 11, 11, 11, 11, 11, 11, 11, 11, 11, 11, 11, 11, 11, 11, 11, 11, 11, 11, 11, 11, 11, 11, 11, 11, 11, 11, 11, 11, 11, 11, 11, 11, 11, 11, 11, 11, 11, 11, 11, 11, 11, 11, 11, 11, 11, 11, 11, 11, 11, 11, 11, 11, 11, 11, 11, 11, 11, 11, 11, 11, 11, 11, 11, 11, 11, 11, 11, 11, 11, 11, 11, 11, 11, 11, 11, 11, 12, 12, 12, 12, 12, 12, 12, 12, 12, 12, 12, 12, 12, 12, 12, 12, 12, 12, 12, 12, 12, 12, 12, 12, 12, 12, 12, 12, 12, 12, 12, 12, 12, 12, 12, 12, 12, 12, 12, 12, 12, 12, 12, 12, 12, 12, 12, 12, 12, 12, 12, 12, 12, 12, 12, 12, 12, 12, 12, 12, 12, 12, 12, 12, 12, 12, 12, 12, 12, 12, 12, 12, 12, 12, 12, 12, 12, 12, 12, 12, 12, 12, 12, 12, 12, 12, 12, 12, 12, 12, 12, 12, 12, 12, 12, 12, 12, 12, 12, 12, 12, 12, 14, 17, 13] : List Nat).getD k 0
/-- links: place in the tables, class, index, and what it is linked to -/
def tqFL : List (Nat × Nat × Nat × Nat × Nat × Nat × Nat) := [(1, 38, 10, 9, 10, 0, 0), (1, 39, 10, 15, 10, 1, 0), (1, 40, 10, 18, 10, 2, 0), (1, 41, 10, 21, 10, 3, 0), (1, 42, 10, 24, 10, 4, 0), (1, 43, 10, 35, 10, 5, 0), (1, 44, 11, 404, 10, 5, 1), (1, 65, 1, 11, 1, 0, 0), (1, 66, 1, 15, 1, 1, 0), (1, 67, 1, 18, 1, 2, 0), (1, 68, 11, 258, 1, 2, 1), (1, 69, 1, 21, 1, 3, 0), (1, 70, 11, 261, 1, 3, 1), (1, 71, 1, 24, 1, 4, 0), (1, 72, 11, 255, 1, 4, 1), (1, 90, 7, 11, 7, 0, 0), (1, 91, 7, 15, 7, 1, 0), (1, 92, 7, 18, 7, 2, 0), (1, 93, 7, 21, 7, 3, 0), (1, 94, 7, 24, 7, 4, 0), (1, 95, 11, 405, 7, 4, 1), (1, 114, 6, 9, 6, 0, 0), (1, 115, 6, 15, 6, 1, 0), (1, 116, 6, 18, 6, 2, 0), (1, 117, 6, 21, 6, 3, 0), (1, 118, 6, 24, 6, 4, 0), (1, 119, 6, 27, 6, 5, 0), (1, 120, 11, 338, 6, 5, 1), (1, 121, 6, 30, 6, 6, 0), (1, 122, 11, 322, 6, 6, 1), (1, 123, 6, 35, 6, 7, 0), (1, 124, 11, 325, 6, 7, 1), (1, 125, 6, 38, 6, 8, 0), (1, 153, 5, 11, 5, 0, 0), (1, 154, 5, 16, 5, 1, 0), (1, 155, 5, 20, 5, 2, 0), (1, 156, 5, 23, 5, 3, 0), (1, 157, 11, 370, 5, 3, 1), (1, 158, 5, 47, 5, 4, 0), (1, 159, 11, 369, 5, 4, 1), (1, 160, 5, 50, 5, 5, 0), (1, 161, 11, 366, 5, 5, 1), (1, 162, 5, 37, 5, 6, 0), (1, 184, 3, 9, 3, 0, 0), (1, 185, 3, 15, 3, 1, 0), (1, 186, 3, 18, 3, 2, 0), (1, 187, 3, 22, 3, 3, 0), (1, 188, 3, 25, 3, 4, 0), (1, 189, 3, 28, 3, 5, 0), (1, 190, 3, 31, 3, 6, 0), (1, 191, 3, 34, 3, 7, 0), (1, 192, 3, 37, 3, 8, 0), (1, 193, 11, 377, 3, 8, 1), (1, 220, 4, 11, 4, 0, 0), (1, 221, 4, 15, 4, 1, 0), (1, 222, 11, 392, 4, 1, 1), (1, 223, 4, 37, 4, 2, 0), (1, 224, 11, 389, 4, 2, 1), (1, 225, 4, 18, 4, 3, 0), (1, 226, 4, 22, 4, 4, 0), (1, 227, 4, 25, 4, 5, 0), (1, 228, 4, 28, 4, 6, 0), (1, 229, 4, 50, 4, 7, 0), (2, 13, 0, 9, 0, 0, 0), (2, 14, 11, 413, 0, 0, 1), (2, 15, 11, 410, 0, 1, 1), (2, 16, 11, 303, 0, 2, 1), (2, 17, 11, 267, 0, 3, 1), (2, 18, 0, 29, 0, 4, 0), (2, 19, 11, 395, 0, 4, 1), (2, 20, 0, 15, 0, 5, 0), (2, 21, 11, 398, 0, 5, 1), (2, 40, 2, 9, 2, 0, 0), (2, 41, 7, 37, 2, 0, 1), (2, 42, 11, 115, 2, 0, 1), (2, 43, 2, 15, 2, 1, 0), (2, 44, 7, 34, 2, 1, 1), (2, 45, 11, 122, 2, 1, 1), (2, 56, 8, 18, 8, 0, 0), (2, 57, 6, 67, 8, 0, 1), (2, 58, 11, 212, 8, 0, 1), (2, 59, 8, 15, 8, 1, 0), (2, 60, 11, 215, 8, 1, 1), (2, 61, 8, 9, 8, 2, 0), (2, 62, 11, 221, 8, 2, 1), (2, 63, 8, 21, 8, 3, 0), (2, 64, 11, 218, 8, 3, 1), (2, 65, 8, 24, 8, 4, 0), (2, 66, 11, 232, 8, 4, 1), (2, 78, 11, 11, 11, 0, 0), (2, 79, 11, 15, 11, 1, 0), (2, 80, 11, 20, 11, 2, 0), (2, 81, 11, 26, 11, 3, 0), (2, 82, 11, 33, 11, 4, 0), (2, 83, 11, 40, 11, 5, 0), (2, 84, 11, 47, 11, 6, 0), (2, 85, 11, 54, 11, 7, 0), (2, 86, 11, 61, 11, 8, 0), (2, 87, 11, 68, 11, 9, 0), (2, 88, 11, 75, 11, 10, 0), (2, 89, 11, 82, 11, 11, 0), (2, 90, 11, 172, 11, 12, 0), (2, 91, 11, 140, 11, 13, 0), (2, 92, 11, 86, 11, 14, 0), (2, 93, 11, 90, 11, 15, 0), (3, 52, 9, 18, 9, 0, 0), (3, 53, 9, 24, 9, 1, 0), (3, 54, 11, 436, 9, 1, 1), (3, 55, 9, 27, 9, 2, 0), (3, 56, 11, 199, 9, 2, 1), (3, 57, 9, 21, 9, 3, 0), (3, 58, 11, 224, 9, 3, 1), (3, 59, 9, 9, 9, 4, 0), (3, 60, 11, 225, 9, 4, 1), (3, 61, 9, 33, 9, 5, 0), (3, 62, 11, 236, 9, 5, 1), (3, 63, 9, 40, 9, 6, 0), (3, 64, 11, 240, 9, 6, 1), (3, 65, 9, 30, 9, 7, 0), (3, 66, 11, 193, 9, 7, 1), (3, 67, 11, 202, 9, 8, 1), (3, 68, 9, 15, 9, 9, 0), (3, 69, 11, 280, 9, 9, 1), (3, 70, 9, 37, 9, 10, 0), (3, 71, 11, 271, 9, 10, 1), (3, 72, 9, 43, 9, 11, 0), (3, 73, 11, 274, 9, 11, 1), (3, 74, 9, 46, 9, 12, 0), (3, 75, 11, 277, 9, 12, 1), (5, 81, 12, 176, 12, 0, 0), (5, 82, 12, 7, 12, 1, 0), (5, 83, 12, 179, 12, 2, 0), (5, 84, 12, 182, 12, 3, 0), (5, 85, 12, 13, 12, 4, 0), (5, 86, 12, 207, 12, 5, 0), (5, 87, 12, 17, 12, 6, 0), (5, 88, 12, 20, 12, 7, 0), (5, 89, 12, 23, 12, 8, 0), (5, 90, 12, 26, 12, 9, 0), (5, 91, 12, 29, 12, 10, 0), (5, 92, 12, 32, 12, 11, 0), (5, 93, 12, 35, 12, 12, 0), (5, 94, 12, 38, 12, 13, 0), (5, 95, 12, 41, 12, 14, 0), (5, 96, 12, 44, 12, 15, 0), (5, 97, 12, 229, 12, 16, 0), (5, 98, 12, 47, 12, 17, 0), (5, 99, 12, 50, 12, 18, 0), (5, 100, 12, 53, 12, 19, 0), (5, 101, 12, 56, 12, 20, 0), (5, 102, 12, 60, 12, 21, 0), (5, 103, 12, 63, 12, 22, 0), (5, 104, 12, 66, 12, 23, 0), (5, 105, 12, 69, 12, 24, 0), (5, 106, 12, 72, 12, 25, 0), (5, 107, 12, 75, 12, 26, 0), (5, 108, 12, 78, 12, 27, 0), (5, 109, 12, 81, 12, 28, 0), (5, 110, 12, 84, 12, 29, 0), (5, 111, 12, 87, 12, 30, 0), (5, 112, 12, 90, 12, 31, 0), (5, 113, 12, 93, 12, 32, 0), (5, 114, 12, 96, 12, 33, 0), (5, 115, 12, 226, 12, 34, 0), (5, 116, 12, 99, 12, 35, 0), (5, 117, 12, 102, 12, 36, 0), (5, 118, 12, 105, 12, 37, 0), (5, 119, 12, 108, 12, 38, 0), (5, 120, 12, 111, 12, 39, 0), (5, 121, 12, 280, 12, 40, 0), (5, 122, 12, 114, 12, 41, 0), (5, 123, 12, 117, 12, 42, 0), (5, 124, 12, 120, 12, 43, 0), (5, 125, 12, 123, 12, 44, 0), (5, 126, 12, 283, 12, 45, 0), (5, 127, 12, 126, 12, 46, 0), (5, 128, 12, 130, 12, 47, 0), (5, 129, 12, 305, 12, 48, 0), (5, 130, 12, 308, 12, 49, 0), (5, 131, 12, 323, 12, 50, 0), (5, 132, 12, 326, 12, 51, 0), (5, 133, 12, 317, 12, 52, 0), (5, 134, 12, 320, 12, 53, 0), (5, 135, 12, 333, 12, 54, 0), (5, 136, 12, 133, 12, 55, 0), (5, 137, 12, 136, 12, 56, 0), (5, 138, 12, 139, 12, 57, 0), (5, 139, 12, 359, 12, 58, 0), (5, 140, 12, 142, 12, 59, 0), (5, 141, 12, 145, 12, 60, 0), (5, 142, 12, 148, 12, 61, 0), (5, 143, 12, 353, 12, 62, 0), (5, 144, 12, 151, 12, 63, 0), (5, 145, 12, 154, 12, 64, 0), (5, 146, 12, 157, 12, 65, 0), (5, 147, 12, 160, 12, 66, 0), (5, 148, 12, 163, 12, 67, 0), (5, 149, 12, 166, 12, 68, 0), (5, 150, 12, 372, 12, 69, 0), (5, 151, 12, 169, 12, 70, 0), (5, 152, 12, 172, 12, 71, 0), (5, 153, 12, 380, 12, 72, 0)]
def tqHL : List (Nat × Nat × Nat × Nat × Nat × Nat) := [(1, 20, 13, 9, 74, 0), (1, 23, 11, 3, 1000, 0), (1, 34, 11, 32, 63, 1), (1, 37, 10, 3, 1000, 0), (1, 61, 11, 39, 3, 1), (1, 64, 1, 3, 1000, 0), (1, 86, 11, 46, 47, 1), (1, 89, 7, 3, 1000, 0), (1, 109, 11, 53, 42, 1), (1, 112, 6, 3, 1000, 0), (1, 147, 11, 60, 38, 1), (1, 150, 5, 3, 1000, 0), (1, 180, 11, 67, 25, 1), (1, 183, 3, 3, 1000, 0), (1, 216, 11, 74, 33, 1), (1, 219, 4, 3, 1000, 0), (2, 9, 11, 81, 0, 1), (2, 12, 0, 3, 1000, 0), (2, 36, 11, 93, 17, 1), (2, 39, 2, 3, 1000, 0), (2, 52, 11, 94, 56, 1), (2, 55, 8, 3, 1000, 0), (2, 127, 13, 13, 75, 0), (2, 131, 11, 95, 140, 0), (2, 134, 11, 99, 147, 0), (2, 138, 11, 107, 149, 0), (2, 142, 11, 448, 254, 0), (2, 145, 13, 18, 76, 0), (2, 149, 11, 103, 18, 1), (2, 153, 11, 111, 19, 1), (2, 157, 11, 119, 148, 0), (2, 161, 13, 23, 77, 0), (2, 165, 13, 28, 78, 0), (2, 169, 11, 125, 20, 1), (2, 173, 11, 129, 1001, 0), (2, 176, 13, 33, 79, 0), (2, 180, 13, 37, 80, 0), (2, 184, 13, 41, 81, 0), (2, 188, 11, 135, 49, 1), (2, 192, 7, 28, 254, 0), (2, 193, 7, 40, 134, 1), (2, 196, 7, 44, 50, 0), (2, 200, 7, 48, 51, 0), (2, 203, 13, 45, 82, 0), (2, 208, 13, 49, 83, 0), (2, 212, 11, 143, 134, 0), (2, 213, 11, 146, 133, 0), (2, 216, 11, 150, 65, 1), (2, 220, 10, 27, 134, 1), (2, 221, 10, 31, 64, 0), (2, 225, 10, 39, 66, 0), (2, 229, 13, 54, 84, 0), (2, 233, 11, 154, 64, 1), (2, 234, 11, 157, 66, 1), (2, 235, 13, 58, 85, 0), (2, 239, 11, 160, 67, 1), (3, 3, 10, 43, 70, 0), (3, 8, 10, 48, 254, 0), (3, 9, 10, 54, 71, 0), (3, 12, 10, 68, 135, 1), (3, 15, 10, 58, 72, 0), (3, 19, 10, 71, 1009, 0), (3, 22, 10, 62, 1006, 0), (3, 25, 11, 164, 150, 0), (3, 30, 13, 62, 86, 0), (3, 34, 11, 167, 68, 1), (3, 38, 13, 66, 87, 0), (3, 43, 11, 175, 4, 1), (3, 48, 11, 178, 59, 1), (3, 51, 9, 3, 1000, 0), (3, 103, 11, 180, 5, 1), (3, 107, 1, 28, 4, 0), (3, 108, 13, 70, 88, 0), (3, 112, 11, 183, 141, 0), (3, 116, 11, 187, 61, 1), (3, 120, 13, 74, 89, 0), (3, 124, 11, 190, 60, 1), (3, 128, 11, 196, 136, 0), (3, 131, 13, 78, 90, 0), (3, 135, 13, 82, 91, 0), (3, 139, 11, 205, 142, 0), (3, 143, 11, 209, 57, 1), (3, 147, 13, 86, 92, 0), (3, 151, 13, 90, 93, 0), (3, 155, 13, 94, 94, 0), (3, 159, 11, 229, 53, 1), (3, 163, 7, 62, 54, 0), (3, 166, 13, 98, 95, 0), (3, 170, 11, 235, 58, 1), (3, 174, 13, 102, 96, 0), (3, 178, 13, 106, 97, 0), (3, 182, 13, 110, 98, 0), (3, 186, 13, 114, 99, 0), (3, 190, 11, 243, 7, 1), (3, 194, 11, 246, 8, 1), (3, 198, 13, 118, 100, 0), (3, 202, 11, 248, 9, 1), (3, 206, 1, 32, 6, 0), (3, 210, 13, 122, 101, 0), (3, 214, 11, 251, 48, 1), (3, 218, 11, 252, 52, 1), (3, 222, 7, 52, 48, 0), (3, 223, 7, 56, 1001, 0), (3, 224, 13, 126, 102, 0), (3, 228, 13, 130, 103, 0), (3, 232, 11, 256, 6, 1), (3, 233, 11, 264, 10, 1), (3, 237, 13, 134, 104, 0), (4, 1, 13, 139, 105, 0), (4, 5, 13, 143, 106, 0), (4, 9, 13, 147, 107, 0), (4, 13, 13, 151, 108, 0), (4, 17, 13, 155, 109, 0), (4, 21, 11, 283, 1, 1), (4, 25, 0, 19, 1007, 0), (4, 28, 0, 25, 2, 0), (4, 31, 13, 160, 110, 0), (4, 35, 11, 287, 62, 1), (4, 39, 13, 164, 111, 0), (4, 43, 13, 168, 112, 0), (4, 47, 11, 290, 24, 1), (4, 51, 2, 19, 1005, 0), (4, 54, 11, 293, 23, 1), (4, 58, 13, 172, 113, 0), (4, 62, 13, 176, 114, 0), (4, 66, 11, 297, 11, 1), (4, 70, 11, 300, 12, 1), (4, 74, 13, 180, 115, 0), (4, 78, 11, 306, 13, 1), (4, 82, 11, 309, 253, 0), (4, 88, 13, 184, 116, 0), (4, 92, 11, 314, 145, 0), (4, 96, 11, 318, 43, 1), (4, 100, 6, 41, 70, 1), (4, 101, 6, 47, 1005, 0), (4, 102, 6, 53, 134, 1), (4, 103, 13, 188, 117, 0), (4, 107, 11, 328, 21, 1), (4, 111, 11, 331, 135, 0), (4, 112, 11, 334, 44, 1), (4, 116, 6, 57, 254, 0), (4, 117, 6, 63, 135, 1), (4, 118, 6, 72, 43, 0), (4, 119, 6, 76, 45, 0), (4, 122, 6, 80, 1001, 0), (4, 123, 6, 86, 46, 0), (4, 126, 13, 192, 118, 0), (4, 130, 13, 196, 119, 0), (4, 134, 11, 341, 1005, 0), (4, 135, 11, 346, 143, 0), (4, 140, 11, 351, 1008, 0), (4, 143, 13, 201, 120, 0), (4, 147, 11, 355, 146, 0), (4, 151, 11, 439, 14, 1), (4, 155, 11, 442, 15, 1), (4, 159, 11, 445, 69, 1), (4, 163, 13, 205, 121, 0), (4, 167, 11, 358, 22, 1), (4, 171, 11, 362, 39, 1), (4, 175, 5, 26, 70, 1), (4, 176, 5, 32, 135, 1), (4, 178, 5, 41, 253, 0), (4, 179, 5, 53, 40, 0), (4, 182, 5, 57, 1001, 0), (4, 183, 5, 63, 41, 0), (4, 187, 13, 209, 122, 0), (4, 191, 13, 213, 123, 0), (4, 195, 11, 373, 26, 1), (4, 199, 3, 41, 1005, 0), (4, 200, 3, 47, 254, 0), (4, 201, 3, 53, 27, 0), (4, 206, 3, 69, 70, 1), (4, 207, 3, 57, 28, 0), (4, 211, 3, 75, 29, 0), (4, 215, 3, 60, 30, 0), (4, 219, 3, 64, 31, 0), (4, 223, 3, 79, 1006, 0), (4, 224, 11, 379, 32, 1), (4, 228, 13, 217, 124, 0), (4, 232, 11, 382, 34, 1), (4, 236, 11, 385, 35, 1), (5, 0, 4, 31, 1006, 0), (5, 1, 4, 40, 254, 0), (5, 2, 4, 46, 36, 0), (5, 7, 4, 54, 37, 0), (5, 11, 4, 58, 1005, 0), (5, 12, 13, 221, 125, 0), (5, 16, 13, 225, 126, 0), (5, 20, 13, 230, 127, 0), (5, 24, 13, 234, 128, 0), (5, 28, 13, 238, 129, 0), (5, 32, 11, 401, 144, 0), (5, 36, 11, 406, 139, 0), (5, 39, 13, 242, 130, 0), (5, 43, 13, 246, 131, 0), (5, 47, 13, 250, 132, 0), (5, 52, 11, 418, 129, 0), (5, 53, 11, 421, 137, 0), (5, 57, 11, 424, 73, 1), (5, 61, 10, 74, 137, 1), (5, 62, 11, 428, 16, 1), (5, 66, 1, 36, 137, 1), (5, 67, 11, 429, 55, 1), (5, 71, 7, 65, 137, 1), (5, 72, 11, 430, 138, 0), (5, 77, 13, 12, 151, 0), (5, 80, 12, 1, 1000, 0), (6, 62, 13, 17, 159, 0), (6, 66, 12, 189, 157, 0), (6, 69, 12, 185, 152, 0), (6, 72, 12, 193, 153, 0), (6, 76, 13, 22, 160, 0), (6, 80, 12, 197, 158, 0), (6, 84, 13, 27, 161, 0), (6, 88, 13, 32, 162, 0), (6, 92, 13, 36, 165, 0), (6, 96, 12, 200, 163, 0), (6, 99, 13, 40, 166, 0), (6, 103, 12, 203, 164, 0), (6, 107, 13, 48, 167, 0), (6, 112, 13, 53, 170, 0), (6, 116, 12, 210, 168, 0), (6, 119, 12, 213, 169, 0), (6, 123, 13, 57, 171, 0), (6, 127, 13, 61, 174, 0), (6, 131, 12, 222, 173, 0), (6, 136, 12, 218, 172, 0), (6, 140, 13, 65, 175, 0), (6, 144, 13, 69, 180, 0), (6, 148, 12, 233, 179, 0), (6, 152, 12, 236, 176, 0), (6, 156, 13, 73, 182, 0), (6, 160, 12, 240, 177, 0), (6, 164, 12, 243, 181, 0), (6, 168, 12, 246, 154, 0), (6, 172, 13, 77, 185, 0), (6, 176, 12, 249, 183, 0), (6, 180, 12, 252, 156, 0), (6, 183, 12, 255, 184, 0), (6, 187, 13, 81, 186, 0), (6, 191, 13, 85, 188, 0), (6, 195, 12, 258, 178, 0), (6, 198, 12, 261, 187, 0), (6, 202, 13, 89, 189, 0), (6, 206, 13, 93, 190, 0), (6, 210, 13, 97, 191, 0), (6, 214, 12, 264, 204, 0), (6, 218, 13, 101, 193, 0), (6, 222, 12, 268, 192, 0), (6, 226, 13, 105, 194, 0), (6, 230, 13, 109, 195, 0), (6, 234, 13, 113, 196, 0), (6, 238, 13, 117, 197, 0), (7, 2, 13, 121, 198, 0), (7, 6, 13, 44, 201, 0), (7, 10, 12, 274, 200, 0), (7, 14, 12, 271, 199, 0), (7, 17, 13, 125, 203, 0), (7, 21, 12, 277, 202, 0), (7, 24, 13, 129, 205, 0), (7, 28, 13, 133, 206, 0), (7, 32, 13, 138, 207, 0), (7, 36, 13, 142, 208, 0), (7, 40, 13, 146, 209, 0), (7, 44, 13, 150, 210, 0), (7, 48, 13, 154, 212, 0), (7, 52, 12, 286, 211, 0), (7, 55, 13, 159, 215, 0), (7, 59, 12, 293, 214, 0), (7, 63, 12, 289, 213, 0), (7, 67, 12, 297, 155, 0), (7, 71, 13, 163, 217, 0), (7, 75, 12, 301, 216, 0), (7, 79, 13, 167, 218, 0), (7, 83, 13, 171, 219, 0), (7, 87, 13, 175, 220, 0), (7, 91, 13, 179, 222, 0), (7, 95, 12, 311, 221, 0), (7, 99, 13, 183, 224, 0), (7, 103, 12, 314, 223, 0), (7, 106, 13, 187, 228, 0), (7, 110, 12, 336, 226, 0), (7, 114, 12, 339, 227, 0), (7, 118, 12, 329, 225, 0), (7, 122, 13, 191, 230, 0), (7, 126, 12, 342, 231, 0), (7, 130, 12, 345, 229, 0), (7, 134, 13, 195, 232, 0), (7, 138, 13, 200, 233, 0), (7, 143, 13, 204, 235, 0), (7, 147, 12, 350, 234, 0), (7, 151, 13, 208, 237, 0), (7, 155, 12, 356, 236, 0), (7, 159, 13, 212, 238, 0), (7, 163, 13, 216, 240, 0), (7, 167, 12, 362, 239, 0), (7, 171, 13, 220, 242, 0), (7, 176, 12, 368, 241, 0), (7, 179, 13, 224, 243, 0), (7, 183, 13, 229, 244, 0), (7, 187, 13, 233, 245, 0), (7, 191, 13, 237, 246, 0), (7, 195, 13, 241, 248, 0), (7, 199, 12, 375, 247, 0), (7, 203, 13, 245, 249, 0), (7, 207, 13, 249, 250, 0), (7, 211, 13, 253, 252, 0), (7, 216, 12, 385, 251, 0)]
def tqCL : List (Nat × Nat × Nat × Nat × Nat) := [(1, 18, 13, 7, 11), (1, 26, 11, 9, 2), (1, 28, 11, 18, 8), (1, 30, 11, 24, 9), (1, 32, 11, 30, 10), (1, 59, 11, 37, 1), (1, 84, 11, 44, 7), (1, 107, 11, 51, 6), (1, 145, 11, 58, 5), (1, 151, 5, 9, 99), (1, 178, 11, 65, 3), (1, 214, 11, 72, 4), (2, 7, 11, 79, 0), (5, 75, 13, 10, 12)]
def tqKL : List (Nat × Nat × Nat × Nat × Int) := [(1, 113, 6, 34, 2147483647), (2, 207, 11, 139, 99999), (3, 7, 10, 47, 2147483647), (3, 29, 11, 228, 2147483647), (3, 42, 11, 171, 100000), (4, 85, 14, 265, 1431655765), (4, 86, 14, 266, 858993459), (4, 87, 14, 267, 252645135), (4, 177, 5, 36, 2147483647), (4, 205, 3, 68, 2147483647), (5, 6, 4, 53, 2147483647), (6, 111, 12, 206, 99999), (6, 135, 12, 217, 100000000), (6, 151, 12, 232, 100000)]
def tqJL : List (Nat × Nat × Nat × Nat × Int) := [(4, 139, 11, 349, 1000), (5, 51, 11, 416, 17), (5, 56, 11, 434, 31), (7, 142, 12, 348, 1000), (7, 175, 12, 366, (-1)), (7, 215, 12, 383, 17), (7, 220, 12, 378, 31)]
def tqfw (q : Nat × Nat × Nat × Nat × Nat × Nat × Nat) : Cond := match q with
  | (_, _, o, i, k, j, 0) => .fieldLink (tqRn o) i (tqRn k) (tqTn k j).2.1 (tqTn k j).2.2.1
  | (_, _, o, i, k, j, _) => .fieldLinkNest (tqRn o) i (tqRn k) (tqTn k j).2.1 (tqTn k j).2.2.1 "TrailerYards"
def tqfmn : MethodName := ⟨"java/lang/Math", "floorMod", "(II)I"⟩
def tqhy (k : Nat) : MethodName := if k = 1000 then Jvm.Lib.objectInit else if k = 1001 then arraycopyName else if k = 1005 then Lib.Math.max.name else if k = 1006 then Lib.Math.min.name else if k = 1007 then Lib.MathLoose.abs_long.x else if k = 1008 then Lib.MathLoose.min_long.x else if k = 1009 then tqfmn else (tqmi k).1
def tqhw (q : Nat × Nat × Nat × Nat × Nat × Nat) : Cond := match q with
  | (_, _, o, i, k, 0) => .methodLink (tqRn o) i (tqhy k)
  | (_, _, o, i, k, _) => .methodLinkNest (tqRn o) i (tqhy k) "TrailerYards"
def tqcw (q : Nat × Nat × Nat × Nat × Nat) : Cond := match q with
  | (_, _, o, i, 99) => .classLink (tqRn o) i "[[I"
  | (_, _, o, i, k) => .classLink (tqRn o) i (tqRn k)
def tqkw (q : Nat × Nat × Nat × Nat × Int) : Cond := .constant (tqRn q.2.2.1) q.2.2.2.1 (Int32.ofInt q.2.2.2.2)
def tqjw (q : Nat × Nat × Nat × Nat × Int) : Cond := .constantLong (tqRn q.2.2.1) q.2.2.2.1 (Int64.ofInt q.2.2.2.2)
/-- the tables' words, by chunks -/
def tqch : Nat → List Cond := fun k => match k with
  | 0 => k2_sels lw_privs
  | 1 => tables_1_1
  | 2 => tables_1_2
  | 3 => tables_1_3
  | 4 => tables_1_4
  | 5 => tables_1_5
  | 6 => tables_1_6
  | 7 => tables_1_7
  | _ => []
theorem tqch_mem {k : Nat} {w : Cond} (h : w ∈ tqch k) : w ∈ lw_tbl := by
  unfold lw_tbl tables_1
  simp only [List.mem_append]
  match k, h with
  | 0, h => exact Or.inl h
  | 1, h => exact Or.inr (Or.inl h)
  | 2, h => exact Or.inr (Or.inr (Or.inl h))
  | 3, h => exact Or.inr (Or.inr (Or.inr (Or.inl h)))
  | 4, h => exact Or.inr (Or.inr (Or.inr (Or.inr (Or.inl h))))
  | 5, h => exact Or.inr (Or.inr (Or.inr (Or.inr (Or.inr (Or.inl h)))))
  | 6, h => exact Or.inr (Or.inr (Or.inr (Or.inr (Or.inr (Or.inr (Or.inl h))))))
  | 7, h => exact Or.inr (Or.inr (Or.inr (Or.inr (Or.inr (Or.inr (Or.inr h))))))
  | _ + 8, h => cases h
theorem tqch_in {k i : Nat} {w : Cond} (h : (tqch k)[i]? = some w) : w ∈ lw_tbl := tqch_mem (List.mem_of_getElem? h)
set_option maxRecDepth 100000 in
set_option maxHeartbeats 4000000 in
theorem tqFL_ok : ∀ q ∈ tqFL, (tqch q.1)[q.2.1]? = some (tqfw q) := by decide +kernel
set_option maxRecDepth 100000 in
set_option maxHeartbeats 4000000 in
theorem tqCL_ok : ∀ q ∈ tqCL, (tqch q.1)[q.2.1]? = some (tqcw q) := by decide +kernel
set_option maxRecDepth 100000 in
set_option maxHeartbeats 4000000 in
theorem tqKL_ok : ∀ q ∈ tqKL, (tqch q.1)[q.2.1]? = some (tqkw q) := by decide +kernel
set_option maxRecDepth 100000 in
set_option maxHeartbeats 4000000 in
theorem tqJL_ok : ∀ q ∈ tqJL, (tqch q.1)[q.2.1]? = some (tqjw q) := by decide +kernel
/-- of each method: is it static; places of its code, of the static or instance word, of selects, of initialized -/
def tqKF : List (Nat × Nat × Nat × Nat × Nat × Nat × Nat × Nat × Nat) := [(0, 2, 11, 2, 10, 99, 0, 1, 9), (0, 4, 24, 4, 23, 0, 32, 1, 9), (1, 4, 30, 4, 29, 99, 0, 1, 9), (0, 1, 63, 1, 62, 99, 0, 1, 3), (0, 3, 46, 3, 45, 0, 16, 1, 3), (0, 3, 106, 3, 105, 0, 17, 1, 3), (0, 3, 209, 3, 208, 0, 28, 1, 3), (0, 3, 193, 3, 192, 0, 25, 1, 3), (0, 3, 197, 3, 196, 0, 26, 1, 3), (0, 3, 205, 3, 204, 0, 27, 1, 3), (0, 3, 236, 3, 235, 0, 31, 1, 3), (0, 4, 69, 4, 68, 0, 36, 1, 3), (0, 4, 73, 4, 72, 0, 37, 1, 3), (0, 4, 81, 4, 80, 0, 38, 1, 3), (0, 4, 154, 4, 153, 0, 45, 1, 3), (0, 4, 158, 4, 157, 0, 46, 1, 3), (0, 5, 65, 5, 64, 0, 64, 1, 3), (0, 2, 38, 2, 37, 99, 0, 1, 10), (0, 2, 152, 2, 151, 0, 2, 1, 10), (0, 2, 156, 2, 155, 0, 3, 1, 10), (0, 2, 172, 2, 171, 0, 5, 1, 10), (0, 4, 110, 4, 109, 0, 41, 1, 10), (0, 4, 170, 4, 169, 0, 48, 1, 10), (0, 4, 57, 4, 56, 0, 35, 1, 10), (0, 4, 50, 4, 49, 0, 34, 1, 10), (0, 1, 182, 1, 181, 99, 0, 1, 7), (0, 4, 198, 4, 197, 0, 51, 1, 7), (0, 4, 204, 4, 203, 0, 52, 1, 7), (0, 4, 210, 4, 209, 0, 53, 1, 7), (0, 4, 214, 4, 213, 0, 54, 1, 7), (0, 4, 218, 4, 217, 0, 55, 1, 7), (0, 4, 222, 4, 221, 0, 56, 1, 7), (0, 4, 227, 4, 226, 0, 57, 1, 7), (0, 1, 218, 1, 217, 99, 0, 1, 8), (0, 4, 235, 4, 234, 0, 58, 1, 8), (0, 4, 239, 4, 238, 0, 59, 1, 8), (0, 5, 5, 5, 4, 0, 60, 1, 8), (0, 5, 10, 5, 9, 0, 61, 1, 8), (0, 1, 149, 1, 148, 99, 0, 1, 6), (0, 4, 174, 4, 173, 0, 49, 1, 6), (1, 4, 181, 4, 180, 99, 0, 1, 6), (0, 4, 186, 4, 185, 0, 50, 1, 6), (0, 1, 111, 1, 110, 99, 0, 1, 5), (0, 4, 99, 4, 98, 0, 40, 1, 5), (0, 4, 115, 4, 114, 0, 42, 1, 5), (1, 4, 121, 4, 120, 99, 0, 1, 5), (1, 4, 125, 4, 124, 99, 0, 1, 5), (0, 1, 88, 1, 87, 99, 0, 1, 4), (0, 3, 217, 3, 216, 0, 29, 1, 4), (0, 2, 191, 2, 190, 0, 6, 1, 4), (0, 2, 199, 2, 198, 0, 7, 1, 4), (1, 2, 202, 2, 201, 99, 0, 1, 4), (0, 3, 221, 3, 220, 0, 30, 1, 4), (0, 3, 162, 3, 161, 0, 23, 1, 4), (1, 3, 165, 3, 164, 99, 0, 1, 4), (0, 5, 70, 5, 69, 0, 65, 1, 4), (0, 2, 54, 2, 53, 99, 0, 1, 11), (0, 3, 146, 3, 145, 0, 22, 1, 11), (0, 3, 173, 3, 172, 0, 24, 1, 11), (0, 3, 50, 3, 49, 99, 0, 1, 16), (0, 3, 127, 3, 126, 0, 20, 1, 16), (0, 3, 119, 3, 118, 0, 19, 1, 16), (0, 4, 38, 4, 37, 0, 33, 1, 16), (0, 1, 36, 1, 35, 99, 0, 1, 2), (0, 2, 224, 2, 223, 0, 9, 1, 2), (0, 2, 219, 2, 218, 0, 8, 1, 2), (0, 2, 228, 2, 227, 0, 10, 1, 2), (0, 3, 2, 3, 1, 0, 11, 1, 2), (0, 3, 37, 3, 36, 0, 15, 1, 2), (0, 4, 162, 4, 161, 0, 47, 1, 2), (0, 3, 6, 3, 5, 0, 12, 1, 2), (1, 3, 11, 3, 10, 99, 0, 1, 2), (0, 3, 18, 3, 17, 0, 13, 1, 2), (0, 5, 60, 5, 59, 0, 63, 1, 2), (0, 1, 22, 1, 21, 99, 0, 1, 1), (0, 2, 130, 2, 128, 2, 129, 1, 1), (0, 2, 148, 2, 146, 2, 147, 1, 1), (0, 2, 164, 2, 162, 2, 163, 1, 1), (0, 2, 168, 2, 166, 2, 167, 1, 1), (0, 2, 179, 2, 177, 2, 178, 1, 1), (0, 2, 183, 2, 181, 2, 182, 1, 1), (0, 2, 187, 2, 185, 2, 186, 1, 1), (0, 2, 206, 2, 204, 2, 205, 1, 1), (0, 2, 211, 2, 209, 2, 210, 1, 1), (0, 2, 232, 2, 230, 2, 231, 1, 1), (0, 2, 238, 2, 236, 2, 237, 1, 1), (0, 3, 33, 3, 31, 3, 32, 1, 1), (0, 3, 41, 3, 39, 3, 40, 1, 1), (0, 3, 111, 3, 109, 3, 110, 1, 1), (0, 3, 123, 3, 121, 3, 122, 1, 1), (0, 3, 134, 3, 132, 3, 133, 1, 1), (0, 3, 138, 3, 136, 3, 137, 1, 1), (0, 3, 150, 3, 148, 3, 149, 1, 1), (0, 3, 154, 3, 152, 3, 153, 1, 1), (0, 3, 158, 3, 156, 3, 157, 1, 1), (0, 3, 169, 3, 167, 3, 168, 1, 1), (0, 3, 177, 3, 175, 3, 176, 1, 1), (0, 3, 181, 3, 179, 3, 180, 1, 1), (0, 3, 185, 3, 183, 3, 184, 1, 1), (0, 3, 189, 3, 187, 3, 188, 1, 1), (0, 3, 201, 3, 199, 3, 200, 1, 1), (0, 3, 213, 3, 211, 3, 212, 1, 1), (0, 3, 227, 3, 225, 3, 226, 1, 1), (0, 3, 231, 3, 229, 3, 230, 1, 1), (0, 4, 0, 3, 238, 3, 239, 1, 1), (0, 4, 4, 4, 2, 4, 3, 1, 1), (0, 4, 8, 4, 6, 4, 7, 1, 1), (0, 4, 12, 4, 10, 4, 11, 1, 1), (0, 4, 16, 4, 14, 4, 15, 1, 1), (0, 4, 20, 4, 18, 4, 19, 1, 1), (0, 4, 34, 4, 32, 4, 33, 1, 1), (0, 4, 42, 4, 40, 4, 41, 1, 1), (0, 4, 46, 4, 44, 4, 45, 1, 1), (0, 4, 61, 4, 59, 4, 60, 1, 1), (0, 4, 65, 4, 63, 4, 64, 1, 1), (0, 4, 77, 4, 75, 4, 76, 1, 1), (0, 4, 91, 4, 89, 4, 90, 1, 1), (0, 4, 106, 4, 104, 4, 105, 1, 1), (0, 4, 129, 4, 127, 4, 128, 1, 1), (0, 4, 133, 4, 131, 4, 132, 1, 1), (0, 4, 146, 4, 144, 4, 145, 1, 1), (0, 4, 166, 4, 164, 4, 165, 1, 1), (0, 4, 190, 4, 188, 4, 189, 1, 1), (0, 4, 194, 4, 192, 4, 193, 1, 1), (0, 4, 231, 4, 229, 4, 230, 1, 1), (0, 5, 15, 5, 13, 5, 14, 1, 1), (0, 5, 19, 5, 17, 5, 18, 1, 1), (0, 5, 23, 5, 21, 5, 22, 1, 1), (0, 5, 27, 5, 25, 5, 26, 1, 1), (0, 5, 31, 5, 29, 5, 30, 1, 1), (0, 5, 42, 5, 40, 5, 41, 1, 1), (0, 5, 46, 5, 44, 5, 45, 1, 1), (0, 5, 50, 5, 48, 5, 49, 1, 1), (1, 2, 215, 2, 214, 99, 0, 1, 1), (1, 2, 195, 2, 194, 99, 0, 1, 1), (1, 3, 14, 3, 13, 99, 0, 1, 1), (1, 3, 130, 3, 129, 99, 0, 1, 1), (1, 5, 55, 5, 54, 99, 0, 1, 1), (1, 5, 74, 5, 73, 99, 0, 1, 1), (1, 5, 38, 5, 37, 99, 0, 1, 1), (1, 2, 133, 2, 132, 99, 0, 1, 1), (0, 3, 115, 3, 114, 0, 18, 1, 1), (0, 3, 142, 3, 141, 0, 21, 1, 1), (0, 4, 138, 4, 137, 0, 43, 1, 1), (0, 5, 35, 5, 34, 0, 62, 1, 1), (0, 4, 95, 4, 94, 0, 39, 1, 1), (0, 4, 150, 4, 149, 0, 44, 1, 1), (0, 2, 137, 2, 136, 0, 0, 1, 1), (0, 2, 160, 2, 159, 0, 4, 1, 1), (0, 2, 141, 2, 140, 0, 1, 1, 1), (0, 3, 28, 3, 27, 0, 14, 1, 1), (0, 5, 79, 5, 78, 99, 0, 1, 12), (1, 6, 71, 6, 70, 99, 0, 1, 12), (0, 6, 75, 6, 74, 0, 66, 1, 12), (0, 6, 171, 6, 170, 0, 75, 1, 12), (0, 7, 70, 7, 69, 0, 84, 1, 12), (1, 6, 182, 6, 181, 99, 0, 1, 12), (1, 6, 68, 6, 67, 99, 0, 1, 12), (0, 6, 83, 6, 82, 0, 67, 1, 12), (0, 6, 65, 6, 63, 6, 64, 1, 12), (0, 6, 79, 6, 77, 6, 78, 1, 12), (0, 6, 87, 6, 85, 6, 86, 1, 12), (0, 6, 91, 6, 89, 6, 90, 1, 12), (1, 6, 98, 6, 97, 99, 0, 1, 12), (0, 6, 106, 6, 105, 0, 68, 1, 12), (0, 6, 95, 6, 93, 6, 94, 1, 12), (0, 6, 102, 6, 100, 6, 101, 1, 12), (0, 6, 110, 6, 108, 6, 109, 1, 12), (1, 6, 118, 6, 117, 99, 0, 1, 12), (0, 6, 122, 6, 121, 0, 69, 1, 12), (0, 6, 115, 6, 113, 6, 114, 1, 12), (0, 6, 126, 6, 124, 6, 125, 1, 12), (0, 6, 139, 6, 138, 0, 71, 1, 12), (0, 6, 134, 6, 133, 0, 70, 1, 12), (0, 6, 130, 6, 128, 6, 129, 1, 12), (0, 6, 143, 6, 141, 6, 142, 1, 12), (0, 6, 155, 6, 154, 0, 72, 1, 12), (0, 6, 163, 6, 162, 0, 73, 1, 12), (1, 6, 197, 6, 196, 99, 0, 1, 12), (1, 6, 150, 6, 149, 99, 0, 1, 12), (0, 6, 147, 6, 145, 6, 146, 1, 12), (0, 6, 167, 6, 166, 0, 74, 1, 12), (0, 6, 159, 6, 157, 6, 158, 1, 12), (0, 6, 179, 6, 178, 0, 76, 1, 12), (0, 6, 186, 6, 185, 0, 77, 1, 12), (0, 6, 175, 6, 173, 6, 174, 1, 12), (0, 6, 190, 6, 188, 6, 189, 1, 12), (0, 6, 201, 6, 200, 0, 78, 1, 12), (0, 6, 194, 6, 192, 6, 193, 1, 12), (0, 6, 205, 6, 203, 6, 204, 1, 12), (0, 6, 209, 6, 207, 6, 208, 1, 12), (0, 6, 213, 6, 211, 6, 212, 1, 12), (0, 6, 225, 6, 224, 0, 80, 1, 12), (0, 6, 221, 6, 219, 6, 220, 1, 12), (0, 6, 229, 6, 227, 6, 228, 1, 12), (0, 6, 233, 6, 231, 6, 232, 1, 12), (0, 6, 237, 6, 235, 6, 236, 1, 12), (0, 7, 1, 6, 239, 7, 0, 1, 12), (0, 7, 5, 7, 3, 7, 4, 1, 12), (1, 7, 16, 7, 15, 99, 0, 1, 12), (0, 7, 13, 7, 12, 0, 81, 1, 12), (0, 7, 9, 7, 7, 7, 8, 1, 12), (1, 7, 23, 7, 22, 99, 0, 1, 12), (0, 7, 20, 7, 18, 7, 19, 1, 12), (0, 6, 217, 6, 216, 0, 79, 1, 12), (0, 7, 27, 7, 25, 7, 26, 1, 12), (0, 7, 31, 7, 29, 7, 30, 1, 12), (0, 7, 35, 7, 33, 7, 34, 1, 12), (0, 7, 39, 7, 37, 7, 38, 1, 12), (0, 7, 43, 7, 41, 7, 42, 1, 12), (0, 7, 47, 7, 45, 7, 46, 1, 12), (1, 7, 54, 7, 53, 99, 0, 1, 12), (0, 7, 51, 7, 49, 7, 50, 1, 12), (0, 7, 66, 7, 65, 0, 83, 1, 12), (0, 7, 62, 7, 61, 0, 82, 1, 12), (0, 7, 58, 7, 56, 7, 57, 1, 12), (0, 7, 78, 7, 77, 0, 85, 1, 12), (0, 7, 74, 7, 72, 7, 73, 1, 12), (0, 7, 82, 7, 80, 7, 81, 1, 12), (0, 7, 86, 7, 84, 7, 85, 1, 12), (0, 7, 90, 7, 88, 7, 89, 1, 12), (0, 7, 98, 7, 97, 0, 86, 1, 12), (0, 7, 94, 7, 92, 7, 93, 1, 12), (1, 7, 105, 7, 104, 99, 0, 1, 12), (0, 7, 102, 7, 100, 7, 101, 1, 12), (0, 7, 121, 7, 120, 0, 89, 1, 12), (0, 7, 113, 7, 112, 0, 87, 1, 12), (0, 7, 117, 7, 116, 0, 88, 1, 12), (0, 7, 109, 7, 107, 7, 108, 1, 12), (0, 7, 133, 7, 132, 0, 91, 1, 12), (0, 7, 125, 7, 123, 7, 124, 1, 12), (0, 7, 129, 7, 128, 0, 90, 1, 12), (0, 7, 137, 7, 135, 7, 136, 1, 12), (0, 7, 141, 7, 139, 7, 140, 1, 12), (0, 7, 150, 7, 149, 0, 92, 1, 12), (0, 7, 146, 7, 144, 7, 145, 1, 12), (0, 7, 158, 7, 157, 0, 93, 1, 12), (0, 7, 154, 7, 152, 7, 153, 1, 12), (0, 7, 162, 7, 160, 7, 161, 1, 12), (0, 7, 170, 7, 169, 0, 94, 1, 12), (0, 7, 166, 7, 164, 7, 165, 1, 12), (1, 7, 178, 7, 177, 99, 0, 1, 12), (0, 7, 174, 7, 172, 7, 173, 1, 12), (0, 7, 182, 7, 180, 7, 181, 1, 12), (0, 7, 186, 7, 184, 7, 185, 1, 12), (0, 7, 190, 7, 188, 7, 189, 1, 12), (0, 7, 194, 7, 192, 7, 193, 1, 12), (0, 7, 202, 7, 201, 0, 95, 1, 12), (0, 7, 198, 7, 196, 7, 197, 1, 12), (0, 7, 206, 7, 204, 7, 205, 1, 12), (0, 7, 210, 7, 208, 7, 209, 1, 12), (0, 7, 219, 7, 218, 0, 96, 1, 12), (0, 7, 214, 7, 212, 7, 213, 1, 12), (1, 4, 84, 4, 83, 99, 0, 1, 17), (1, 2, 144, 2, 143, 99, 0, 1, 13), (0, 0, 0, 0, 0, 0, 0, 0, 0)]
def tqkf (k : Nat) : Nat × Nat × Nat × Nat × Nat × Nat × Nat × Nat × Nat := tqKF.getD k (0, 0, 0, 0, 0, 0, 0, 0, 0)
def tqkfok (k : Nat) : Bool := match tqkf k with
  | (s, a1, a2, b1, b2, c1, c2, d1, d2) => decide ((tqch b1)[b2]? = some (bif Nat.beq s 1 then .static (tqmi k).1 else .instanceMethod (tqmi k).1)) && (Nat.beq c1 99 || decide ((tqch c1)[c2]? = some (.selects (tqmi k).1.cls (tqmi k).1 (tqmi k).1))) && decide ((tqch d1)[d2]? = some (.initialized (tqmi k).1.cls))
