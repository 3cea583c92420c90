def tqMl : List (MethodName × ByteArray × Nat × Option Jvm.ClassFile.FieldType) := [
(⟨"TrailerYards$Answers", "<init>", "()V"⟩, prog_2_method_1_code, 1, (Option.none : Option Jvm.ClassFile.FieldType)),
  (⟨"TrailerYards$Answers", "tellFraction", "(JJ)V"⟩, prog_2_method_2_code, 7, (Option.none : Option Jvm.ClassFile.FieldType)),
  (⟨"TrailerYards$Answers", "commonDivisor", "(JJ)J"⟩, prog_2_method_3_code, 11, (Option.some Jvm.ClassFile.FieldType.long)),
  (⟨"TrailerYards$Book", "<init>", "()V"⟩, prog_3_method_1_code, 1, (Option.none : Option Jvm.ClassFile.FieldType)),
  (⟨"TrailerYards$Book", "isFull", "()Z"⟩, prog_3_method_2_code, 1, (Option.some Jvm.ClassFile.FieldType.boolean)),
  (⟨"TrailerYards$Book", "enter", "(IIII)V"⟩, prog_3_method_3_code, 5, (Option.none : Option Jvm.ClassFile.FieldType)),
  (⟨"TrailerYards$Book", "isOf", "(III)Z"⟩, prog_3_method_4_code, 4, (Option.some Jvm.ClassFile.FieldType.boolean)),
  (⟨"TrailerYards$Book", "entryOf", "(II)I"⟩, prog_3_method_5_code, 5, (Option.some Jvm.ClassFile.FieldType.int)),
  (⟨"TrailerYards$Book", "says", "(II)I"⟩, prog_3_method_6_code, 3, (Option.some Jvm.ClassFile.FieldType.int)),
  (⟨"TrailerYards$Book", "placeAt", "(II)I"⟩, prog_3_method_7_code, 5, (Option.some Jvm.ClassFile.FieldType.int)),
  (⟨"TrailerYards$Book", "stoodTill", "(II)I"⟩, prog_3_method_8_code, 5, (Option.some Jvm.ClassFile.FieldType.int)),
  (⟨"TrailerYards$Book", "foundBroken", "(I)I"⟩, prog_3_method_9_code, 3, (Option.some Jvm.ClassFile.FieldType.int)),
  (⟨"TrailerYards$Book", "seenWholeAhead", "(II)I"⟩, prog_3_method_10_code, 4, (Option.some Jvm.ClassFile.FieldType.int)),
  (⟨"TrailerYards$Book", "holdersBetween", "(III)I"⟩, prog_3_method_11_code, 7, (Option.some Jvm.ClassFile.FieldType.int)),
  (⟨"TrailerYards$Book", "latestYard", "(I)I"⟩, prog_3_method_12_code, 3, (Option.some Jvm.ClassFile.FieldType.int)),
  (⟨"TrailerYards$Book", "latestHeld", "(I)I"⟩, prog_3_method_13_code, 3, (Option.some Jvm.ClassFile.FieldType.int)),
  (⟨"TrailerYards$Book", "mixInto", "(J)J"⟩, prog_3_method_14_code, 6, (Option.some Jvm.ClassFile.FieldType.long)),
  (⟨"TrailerYards$Line", "<init>", "()V"⟩, prog_4_method_1_code, 1, (Option.none : Option Jvm.ClassFile.FieldType)),
  (⟨"TrailerYards$Line", "isMissing", "()Z"⟩, prog_4_method_2_code, 1, (Option.some Jvm.ClassFile.FieldType.boolean)),
  (⟨"TrailerYards$Line", "has", "(I)Z"⟩, prog_4_method_3_code, 2, (Option.some Jvm.ClassFile.FieldType.boolean)),
  (⟨"TrailerYards$Line", "hasSpan", "(II)Z"⟩, prog_4_method_4_code, 3, (Option.some Jvm.ClassFile.FieldType.boolean)),
  (⟨"TrailerYards$Line", "allWithin", "(II)Z"⟩, prog_4_method_5_code, 4, (Option.some Jvm.ClassFile.FieldType.boolean)),
  (⟨"TrailerYards$Line", "placesAboveNought", "()I"⟩, prog_4_method_6_code, 3, (Option.some Jvm.ClassFile.FieldType.int)),
  (⟨"TrailerYards$Line", "warmOnes", "(IZ)I"⟩, prog_4_method_7_code, 5, (Option.some Jvm.ClassFile.FieldType.int)),
  (⟨"TrailerYards$Line", "longestWarm", "(I)I"⟩, prog_4_method_8_code, 5, (Option.some Jvm.ClassFile.FieldType.int)),
  (⟨"TrailerYards$Pool", "<init>", "()V"⟩, prog_5_method_1_code, 1, (Option.none : Option Jvm.ClassFile.FieldType)),
  (⟨"TrailerYards$Pool", "share", "(LTrailerYards$Ways;I[I[I)V"⟩, prog_5_method_2_code, 7, (Option.none : Option Jvm.ClassFile.FieldType)),
  (⟨"TrailerYards$Pool", "measure", "(LTrailerYards$Ways;I)V"⟩, prog_5_method_3_code, 5, (Option.none : Option Jvm.ClassFile.FieldType)),
  (⟨"TrailerYards$Pool", "findPaths", "()V"⟩, prog_5_method_4_code, 6, (Option.none : Option Jvm.ClassFile.FieldType)),
  (⟨"TrailerYards$Pool", "shorten", "(III)Z"⟩, prog_5_method_5_code, 4, (Option.some Jvm.ClassFile.FieldType.boolean)),
  (⟨"TrailerYards$Pool", "nearestLacking", "()I"⟩, prog_5_method_6_code, 3, (Option.some Jvm.ClassFile.FieldType.int)),
  (⟨"TrailerYards$Pool", "bring", "(I)V"⟩, prog_5_method_7_code, 5, (Option.none : Option Jvm.ClassFile.FieldType)),
  (⟨"TrailerYards$Pool", "lack", "()I"⟩, prog_5_method_8_code, 3, (Option.some Jvm.ClassFile.FieldType.int)),
  (⟨"TrailerYards$Rents", "<init>", "()V"⟩, prog_6_method_1_code, 1, (Option.none : Option Jvm.ClassFile.FieldType)),
  (⟨"TrailerYards$Rents", "setPrices", "(IIII)V"⟩, prog_6_method_2_code, 5, (Option.none : Option Jvm.ClassFile.FieldType)),
  (⟨"TrailerYards$Rents", "planDays", "([II)I"⟩, prog_6_method_3_code, 5, (Option.some Jvm.ClassFile.FieldType.int)),
  (⟨"TrailerYards$Rents", "firstBest", "(III)I"⟩, prog_6_method_4_code, 7, (Option.some Jvm.ClassFile.FieldType.int)),
  (⟨"TrailerYards$Rents", "costFrom", "(IIII)I"⟩, prog_6_method_5_code, 7, (Option.some Jvm.ClassFile.FieldType.int)),
  (⟨"TrailerYards$Search", "<init>", "()V"⟩, prog_7_method_1_code, 1, (Option.none : Option Jvm.ClassFile.FieldType)),
  (⟨"TrailerYards$Search", "order", "(LTrailerYards$Ways;III[I)Z"⟩, prog_7_method_2_code, 7, (Option.some Jvm.ClassFile.FieldType.boolean)),
  (⟨"TrailerYards$Search", "goOn", "(LTrailerYards$Search;LTrailerYards$Ways;IIIII)V"⟩, prog_7_method_3_code, 10, (Option.none : Option Jvm.ClassFile.FieldType)),
  (⟨"TrailerYards$Search", "straight", "([II)I"⟩, prog_7_method_4_code, 5, (Option.some Jvm.ClassFile.FieldType.int)),
  (⟨"TrailerYards$Swaps", "<init>", "()V"⟩, prog_8_method_1_code, 1, (Option.none : Option Jvm.ClassFile.FieldType)),
  (⟨"TrailerYards$Swaps", "meet", "(LTrailerYards$Ways;IIIII)V"⟩, prog_8_method_2_code, 12, (Option.none : Option Jvm.ClassFile.FieldType)),
  (⟨"TrailerYards$Swaps", "pairUp", "(LTrailerYards$Ways;I[LTrailerYards$Tractor;[II)I"⟩, prog_8_method_3_code, 8, (Option.some Jvm.ClassFile.FieldType.int)),
  (⟨"TrailerYards$Swaps", "partOut", "(LTrailerYards$Swaps;III)V"⟩, prog_8_method_4_code, 7, (Option.none : Option Jvm.ClassFile.FieldType)),
  (⟨"TrailerYards$Swaps", "leastOf", "(I)I"⟩, prog_8_method_5_code, 2, (Option.some Jvm.ClassFile.FieldType.int)),
  (⟨"TrailerYards$Terms", "<init>", "()V"⟩, prog_9_method_1_code, 1, (Option.none : Option Jvm.ClassFile.FieldType)),
  (⟨"TrailerYards$Terms", "isFull", "()Z"⟩, prog_9_method_2_code, 1, (Option.some Jvm.ClassFile.FieldType.boolean)),
  (⟨"TrailerYards$Terms", "read", "(LTrailerYards$Line;)I"⟩, prog_9_method_3_code, 9, (Option.some Jvm.ClassFile.FieldType.int)),
  (⟨"TrailerYards$Terms", "addDigit", "(III)V"⟩, prog_9_method_4_code, 4, (Option.none : Option Jvm.ClassFile.FieldType)),
  (⟨"TrailerYards$Terms", "thingOf", "(I)I"⟩, prog_9_method_5_code, 1, (Option.some Jvm.ClassFile.FieldType.int)),
  (⟨"TrailerYards$Terms", "keep", "(II)I"⟩, prog_9_method_6_code, 3, (Option.some Jvm.ClassFile.FieldType.int)),
  (⟨"TrailerYards$Terms", "inForce", "(III)I"⟩, prog_9_method_7_code, 7, (Option.some Jvm.ClassFile.FieldType.int)),
  (⟨"TrailerYards$Terms", "atFirst", "(I)I"⟩, prog_9_method_8_code, 1, (Option.some Jvm.ClassFile.FieldType.int)),
  (⟨"TrailerYards$Terms", "mixInto", "(J)J"⟩, prog_9_method_9_code, 6, (Option.some Jvm.ClassFile.FieldType.long)),
  (⟨"TrailerYards$Tractor", "<init>", "()V"⟩, prog_10_method_1_code, 1, (Option.none : Option Jvm.ClassFile.FieldType)),
  (⟨"TrailerYards$Tractor", "isOnTheWay", "(I)Z"⟩, prog_10_method_2_code, 2, (Option.some Jvm.ClassFile.FieldType.boolean)),
  (⟨"TrailerYards$Tractor", "says", "(I)I"⟩, prog_10_method_3_code, 2, (Option.some Jvm.ClassFile.FieldType.int)),
  (⟨"TrailerYards$Trailer", "<init>", "(IIII)V"⟩, prog_11_method_1_code, 5, (Option.none : Option Jvm.ClassFile.FieldType)),
  (⟨"TrailerYards$Trailer", "isOf", "(I)Z"⟩, prog_11_method_2_code, 2, (Option.some Jvm.ClassFile.FieldType.boolean)),
  (⟨"TrailerYards$Trailer", "says", "(I)I"⟩, prog_11_method_3_code, 2, (Option.some Jvm.ClassFile.FieldType.int)),
  (⟨"TrailerYards$Trailer", "isLawfulAt", "(III)Z"⟩, prog_11_method_4_code, 5, (Option.some Jvm.ClassFile.FieldType.boolean)),
  (⟨"TrailerYards$Ways", "<init>", "()V"⟩, prog_12_method_1_code, 1, (Option.none : Option Jvm.ClassFile.FieldType)),
  (⟨"TrailerYards$Ways", "joins", "(II)Z"⟩, prog_12_method_2_code, 3, (Option.some Jvm.ClassFile.FieldType.boolean)),
  (⟨"TrailerYards$Ways", "join", "(IIII)V"⟩, prog_12_method_3_code, 5, (Option.none : Option Jvm.ClassFile.FieldType)),
  (⟨"TrailerYards$Ways", "makeFerry", "(IIII)V"⟩, prog_12_method_4_code, 5, (Option.none : Option Jvm.ClassFile.FieldType)),
  (⟨"TrailerYards$Ways", "arrival", "(III)I"⟩, prog_12_method_5_code, 4, (Option.some Jvm.ClassFile.FieldType.int)),
  (⟨"TrailerYards$Ways", "leastToll", "(II)I"⟩, prog_12_method_6_code, 3, (Option.some Jvm.ClassFile.FieldType.int)),
  (⟨"TrailerYards$Ways", "inReach", "(III)I"⟩, prog_12_method_7_code, 6, (Option.some Jvm.ClassFile.FieldType.int)),
  (⟨"TrailerYards$Ways", "reach", "(IIZ[I)V"⟩, prog_12_method_8_code, 9, (Option.none : Option Jvm.ClassFile.FieldType)),
  (⟨"TrailerYards$Ways", "nearest", "([II)I"⟩, prog_12_method_9_code, 5, (Option.some Jvm.ClassFile.FieldType.int)),
  (⟨"TrailerYards$Ways", "next", "(IIZ)I"⟩, prog_12_method_10_code, 6, (Option.some Jvm.ClassFile.FieldType.int)),
  (⟨"TrailerYards$Ways", "mixInto", "(J)J"⟩, prog_12_method_11_code, 8, (Option.some Jvm.ClassFile.FieldType.long)),
  (⟨"TrailerYards", "<init>", "()V"⟩, prog_1_method_1_code, 2, (Option.none : Option Jvm.ClassFile.FieldType)),
  (⟨"TrailerYards", "row", "(II)I"⟩, prog_1_method_2_code, 3, (Option.some Jvm.ClassFile.FieldType.int)),
  (⟨"TrailerYards", "lay", "(III)I"⟩, prog_1_method_3_code, 6, (Option.some Jvm.ClassFile.FieldType.int)),
  (⟨"TrailerYards", "tear", "(I)I"⟩, prog_1_method_4_code, 3, (Option.some Jvm.ClassFile.FieldType.int)),
  (⟨"TrailerYards", "copy", "(IIIII)I"⟩, prog_1_method_5_code, 8, (Option.some Jvm.ClassFile.FieldType.int)),
  (⟨"TrailerYards", "text", "(II)I"⟩, prog_1_method_6_code, 3, (Option.some Jvm.ClassFile.FieldType.int)),
  (⟨"TrailerYards", "put", "(III)I"⟩, prog_1_method_7_code, 6, (Option.some Jvm.ClassFile.FieldType.int)),
  (⟨"TrailerYards", "fault", "(I)I"⟩, prog_1_method_8_code, 3, (Option.some Jvm.ClassFile.FieldType.int)),
  (⟨"TrailerYards", "later", "(I)I"⟩, prog_1_method_9_code, 2, (Option.some Jvm.ClassFile.FieldType.int)),
  (⟨"TrailerYards", "way", "(IIII)I"⟩, prog_1_method_10_code, 5, (Option.some Jvm.ClassFile.FieldType.int)),
  (⟨"TrailerYards", "ferry", "(IIII)I"⟩, prog_1_method_11_code, 5, (Option.some Jvm.ClassFile.FieldType.int)),
  (⟨"TrailerYards", "comes", "(III)I"⟩, prog_1_method_12_code, 4, (Option.some Jvm.ClassFile.FieldType.int)),
  (⟨"TrailerYards", "toll", "(II)I"⟩, prog_1_method_13_code, 3, (Option.some Jvm.ClassFile.FieldType.int)),
  (⟨"TrailerYards", "trailer", "(III)I"⟩, prog_1_method_14_code, 5, (Option.some Jvm.ClassFile.FieldType.int)),
  (⟨"TrailerYards", "told", "(II)I"⟩, prog_1_method_15_code, 4, (Option.some Jvm.ClassFile.FieldType.int)),
  (⟨"TrailerYards", "mark", "(II)I"⟩, prog_1_method_16_code, 4, (Option.some Jvm.ClassFile.FieldType.int)),
  (⟨"TrailerYards", "limit", "(II)I"⟩, prog_1_method_17_code, 5, (Option.some Jvm.ClassFile.FieldType.int)),
  (⟨"TrailerYards", "park", "(II)I"⟩, prog_1_method_18_code, 4, (Option.some Jvm.ClassFile.FieldType.int)),
  (⟨"TrailerYards", "hitch", "(II)I"⟩, prog_1_method_19_code, 5, (Option.some Jvm.ClassFile.FieldType.int)),
  (⟨"TrailerYards", "drop", "(I)I"⟩, prog_1_method_20_code, 5, (Option.some Jvm.ClassFile.FieldType.int)),
  (⟨"TrailerYards", "go", "(II)I"⟩, prog_1_method_21_code, 8, (Option.some Jvm.ClassFile.FieldType.int)),
  (⟨"TrailerYards", "tractor", "(II)I"⟩, prog_1_method_22_code, 4, (Option.some Jvm.ClassFile.FieldType.int)),
  (⟨"TrailerYards", "lose", "(I)I"⟩, prog_1_method_23_code, 4, (Option.some Jvm.ClassFile.FieldType.int)),
  (⟨"TrailerYards", "find", "(II)I"⟩, prog_1_method_24_code, 4, (Option.some Jvm.ClassFile.FieldType.int)),
  (⟨"TrailerYards", "seal", "(II)I"⟩, prog_1_method_25_code, 4, (Option.some Jvm.ClassFile.FieldType.int)),
  (⟨"TrailerYards", "book", "(III)I"⟩, prog_1_method_26_code, 5, (Option.some Jvm.ClassFile.FieldType.int)),
  (⟨"TrailerYards", "where", "(II)I"⟩, prog_1_method_27_code, 3, (Option.some Jvm.ClassFile.FieldType.int)),
  (⟨"TrailerYards", "terms", "(II)I"⟩, prog_1_method_28_code, 4, (Option.some Jvm.ClassFile.FieldType.int)),
  (⟨"TrailerYards", "force", "(IIII)I"⟩, prog_1_method_29_code, 5, (Option.some Jvm.ClassFile.FieldType.int)),
  (⟨"TrailerYards", "detention", "(I)I"⟩, prog_1_method_30_code, 10, (Option.some Jvm.ClassFile.FieldType.int)),
  (⟨"TrailerYards", "pence", "()J"⟩, prog_1_method_31_code, 1, (Option.some Jvm.ClassFile.FieldType.long)),
  (⟨"TrailerYards", "law", "(II)I"⟩, prog_1_method_32_code, 3, (Option.some Jvm.ClassFile.FieldType.int)),
  (⟨"TrailerYards", "load", "(III)I"⟩, prog_1_method_33_code, 5, (Option.some Jvm.ClassFile.FieldType.int)),
  (⟨"TrailerYards", "unload", "(I)I"⟩, prog_1_method_34_code, 4, (Option.some Jvm.ClassFile.FieldType.int)),
  (⟨"TrailerYards", "slide", "(II)I"⟩, prog_1_method_35_code, 5, (Option.some Jvm.ClassFile.FieldType.int)),
  (⟨"TrailerYards", "weight", "(IZ)I"⟩, prog_1_method_36_code, 4, (Option.some Jvm.ClassFile.FieldType.int)),
  (⟨"TrailerYards", "lawful", "(I)I"⟩, prog_1_method_37_code, 3, (Option.some Jvm.ClassFile.FieldType.int)),
  (⟨"TrailerYards", "shift", "(I)I"⟩, prog_1_method_38_code, 4, (Option.some Jvm.ClassFile.FieldType.int)),
  (⟨"TrailerYards", "cold", "(III)I"⟩, prog_1_method_39_code, 6, (Option.some Jvm.ClassFile.FieldType.int)),
  (⟨"TrailerYards", "mean", "(I)I"⟩, prog_1_method_40_code, 7, (Option.some Jvm.ClassFile.FieldType.int)),
  (⟨"TrailerYards", "theft", "(I)I"⟩, prog_1_method_41_code, 4, (Option.some Jvm.ClassFile.FieldType.int)),
  (⟨"TrailerYards", "hands", "(I)I"⟩, prog_1_method_42_code, 5, (Option.some Jvm.ClassFile.FieldType.int)),
  (⟨"TrailerYards", "swap", "(IIII)I"⟩, prog_1_method_43_code, 7, (Option.some Jvm.ClassFile.FieldType.int)),
  (⟨"TrailerYards", "pairs", "(II)I"⟩, prog_1_method_44_code, 6, (Option.some Jvm.ClassFile.FieldType.int)),
  (⟨"TrailerYards", "partner", "(I)I"⟩, prog_1_method_45_code, 2, (Option.some Jvm.ClassFile.FieldType.int)),
  (⟨"TrailerYards", "late", "(IIIIII)I"⟩, prog_1_method_46_code, 16, (Option.some Jvm.ClassFile.FieldType.int)),
  (⟨"TrailerYards", "canBe", "(I)I"⟩, prog_1_method_47_code, 3, (Option.some Jvm.ClassFile.FieldType.int)),
  (⟨"TrailerYards", "look", "(III)I"⟩, prog_1_method_48_code, 8, (Option.some Jvm.ClassFile.FieldType.int)),
  (⟨"TrailerYards", "looked", "(I)I"⟩, prog_1_method_49_code, 2, (Option.some Jvm.ClassFile.FieldType.int)),
  (⟨"TrailerYards", "pool", "(II)I"⟩, prog_1_method_50_code, 5, (Option.some Jvm.ClassFile.FieldType.int)),
  (⟨"TrailerYards", "rent", "(IIIII)I"⟩, prog_1_method_51_code, 7, (Option.some Jvm.ClassFile.FieldType.int)),
  (⟨"TrailerYards", "rented", "(I)I"⟩, prog_1_method_52_code, 2, (Option.some Jvm.ClassFile.FieldType.int)),
  (⟨"TrailerYards", "asked", "()I"⟩, prog_1_method_53_code, 1, (Option.some Jvm.ClassFile.FieldType.int)),
  (⟨"TrailerYards", "upper", "()J"⟩, prog_1_method_54_code, 1, (Option.some Jvm.ClassFile.FieldType.long)),
  (⟨"TrailerYards", "lower", "()J"⟩, prog_1_method_55_code, 1, (Option.some Jvm.ClassFile.FieldType.long)),
  (⟨"TrailerYards", "count", "(I)I"⟩, prog_1_method_56_code, 2, (Option.some Jvm.ClassFile.FieldType.int)),
  (⟨"TrailerYards", "finding", "()I"⟩, prog_1_method_57_code, 1, (Option.some Jvm.ClassFile.FieldType.int)),
  (⟨"TrailerYards", "findings", "(I)I"⟩, prog_1_method_58_code, 2, (Option.some Jvm.ClassFile.FieldType.int)),
  (⟨"TrailerYards", "digest", "()J"⟩, prog_1_method_59_code, 5, (Option.some Jvm.ClassFile.FieldType.long)),
  (⟨"TrailerYards", "isWithin", "(III)Z"⟩, prog_1_method_60_code, 3, (Option.some Jvm.ClassFile.FieldType.boolean)),
  (⟨"TrailerYards", "isYard", "(I)Z"⟩, prog_1_method_61_code, 1, (Option.some Jvm.ClassFile.FieldType.boolean)),
  (⟨"TrailerYards", "hasBit", "(II)Z"⟩, prog_1_method_62_code, 2, (Option.some Jvm.ClassFile.FieldType.boolean)),
  (⟨"TrailerYards", "dayOf", "(I)I"⟩, prog_1_method_63_code, 1, (Option.some Jvm.ClassFile.FieldType.int)),
  (⟨"TrailerYards", "mix", "(JJ)J"⟩, prog_1_method_64_code, 4, (Option.some Jvm.ClassFile.FieldType.long)),
  (⟨"TrailerYards", "mixLines", "(J[LTrailerYards$Line;)J"⟩, prog_1_method_65_code, 7, (Option.some Jvm.ClassFile.FieldType.long)),
  (⟨"TrailerYards", "linesThere", "([LTrailerYards$Line;)I"⟩, prog_1_method_66_code, 3, (Option.some Jvm.ClassFile.FieldType.int)),
  (⟨"TrailerYards", "lineAt", "([LTrailerYards$Line;I)LTrailerYards$Line;"⟩, prog_1_method_67_code, 2, (Option.some (Jvm.ClassFile.FieldType.object "TrailerYards$Line"))),
  (⟨"TrailerYards", "trailerAt", "(I)LTrailerYards$Trailer;"⟩, prog_1_method_68_code, 2, (Option.some (Jvm.ClassFile.FieldType.object "TrailerYards$Trailer"))),
  (⟨"TrailerYards", "tractorAt", "(I)LTrailerYards$Tractor;"⟩, prog_1_method_69_code, 2, (Option.some (Jvm.ClassFile.FieldType.object "TrailerYards$Tractor"))),
  (⟨"TrailerYards", "worthOf", "(I)I"⟩, prog_1_method_70_code, 3, (Option.some Jvm.ClassFile.FieldType.int)),
  (⟨"TrailerYards", "lostOnes", "()I"⟩, prog_1_method_71_code, 3, (Option.some Jvm.ClassFile.FieldType.int)),
  (⟨"TrailerYards", "canSwap", "(LTrailerYards$Tractor;)Z"⟩, prog_1_method_72_code, 2, (Option.some Jvm.ClassFile.FieldType.boolean)),
  (⟨"TrailerYards", "yardsInReach", "(I)I"⟩, prog_1_method_73_code, 2, (Option.some Jvm.ClassFile.FieldType.int)),
  (⟨"TrailerYards", "makeLine", "(LTrailerYards$Line;II)I"⟩, prog_1_method_74_code, 4, (Option.some Jvm.ClassFile.FieldType.int)),
  (⟨"TrailerYards", "tells", "(I)I"⟩, prog_1_method_75_code, 2, (Option.some Jvm.ClassFile.FieldType.int)),
  (⟨"TrailerYards", "refuse", "(I)I"⟩, prog_1_method_76_code, 2, (Option.some Jvm.ClassFile.FieldType.int)),
  (⟨"TrailerYards", "orNothing", "(I)I"⟩, prog_1_method_77_code, 2, (Option.some Jvm.ClassFile.FieldType.int)),
  (⟨"TrailerYardsModel", "<init>", "()V"⟩, prog_14_method_1_code, 2, (Option.none : Option Jvm.ClassFile.FieldType)),
  (⟨"TrailerYardsModel", "in", "(III)Z"⟩, prog_14_method_3_code, 3, (Option.some Jvm.ClassFile.FieldType.boolean)),
  (⟨"TrailerYardsModel", "meets", "(I)I"⟩, prog_14_method_4_code, 2, (Option.some Jvm.ClassFile.FieldType.int)),
  (⟨"TrailerYardsModel", "ask", "(II)I"⟩, prog_14_method_5_code, 3, (Option.some Jvm.ClassFile.FieldType.int)),
  (⟨"TrailerYardsModel", "share", "(JJ)I"⟩, prog_14_method_6_code, 11, (Option.some Jvm.ClassFile.FieldType.int)),
  (⟨"TrailerYardsModel", "day", "(I)I"⟩, prog_14_method_7_code, 1, (Option.some Jvm.ClassFile.FieldType.int)),
  (⟨"TrailerYardsModel", "isRow", "(I)Z"⟩, prog_14_method_8_code, 1, (Option.some Jvm.ClassFile.FieldType.boolean)),
  (⟨"TrailerYardsModel", "askedRow", "(I)I"⟩, prog_14_method_9_code, 2, (Option.some Jvm.ClassFile.FieldType.int)),
  (⟨"TrailerYardsModel", "row", "(II)I"⟩, prog_14_method_10_code, 4, (Option.some Jvm.ClassFile.FieldType.int)),
  (⟨"TrailerYardsModel", "lay", "(III)I"⟩, prog_14_method_11_code, 5, (Option.some Jvm.ClassFile.FieldType.int)),
  (⟨"TrailerYardsModel", "tear", "(I)I"⟩, prog_14_method_12_code, 3, (Option.some Jvm.ClassFile.FieldType.int)),
  (⟨"TrailerYardsModel", "copy", "(IIIII)I"⟩, prog_14_method_13_code, 7, (Option.some Jvm.ClassFile.FieldType.int)),
  (⟨"TrailerYardsModel", "isText", "(I)Z"⟩, prog_14_method_14_code, 1, (Option.some Jvm.ClassFile.FieldType.boolean)),
  (⟨"TrailerYardsModel", "askedText", "(I)I"⟩, prog_14_method_15_code, 2, (Option.some Jvm.ClassFile.FieldType.int)),
  (⟨"TrailerYardsModel", "text", "(II)I"⟩, prog_14_method_16_code, 4, (Option.some Jvm.ClassFile.FieldType.int)),
  (⟨"TrailerYardsModel", "put", "(III)I"⟩, prog_14_method_17_code, 6, (Option.some Jvm.ClassFile.FieldType.int)),
  (⟨"TrailerYardsModel", "later", "(I)I"⟩, prog_14_method_18_code, 2, (Option.some Jvm.ClassFile.FieldType.int)),
  (⟨"TrailerYardsModel", "isYard", "(I)Z"⟩, prog_14_method_19_code, 1, (Option.some Jvm.ClassFile.FieldType.boolean)),
  (⟨"TrailerYardsModel", "setWay", "(IIIIII)V"⟩, prog_14_method_20_code, 8, (Option.none : Option Jvm.ClassFile.FieldType)),
  (⟨"TrailerYardsModel", "way", "(IIII)I"⟩, prog_14_method_21_code, 5, (Option.some Jvm.ClassFile.FieldType.int)),
  (⟨"TrailerYardsModel", "ferry", "(IIII)I"⟩, prog_14_method_22_code, 6, (Option.some Jvm.ClassFile.FieldType.int)),
  (⟨"TrailerYardsModel", "beyond", "(II)I"⟩, prog_14_method_23_code, 5, (Option.some Jvm.ClassFile.FieldType.int)),
  (⟨"TrailerYardsModel", "comesTo", "(III)I"⟩, prog_14_method_24_code, 8, (Option.some Jvm.ClassFile.FieldType.int)),
  (⟨"TrailerYardsModel", "comes", "(III)I"⟩, prog_14_method_25_code, 5, (Option.some Jvm.ClassFile.FieldType.int)),
  (⟨"TrailerYardsModel", "toll", "(II)I"⟩, prog_14_method_26_code, 6, (Option.some Jvm.ClassFile.FieldType.int)),
  (⟨"TrailerYardsModel", "enter", "(IIII)V"⟩, prog_14_method_27_code, 5, (Option.none : Option Jvm.ClassFile.FieldType)),
  (⟨"TrailerYardsModel", "isTrailer", "(I)Z"⟩, prog_14_method_28_code, 2, (Option.some Jvm.ClassFile.FieldType.boolean)),
  (⟨"TrailerYardsModel", "isTractor", "(I)Z"⟩, prog_14_method_29_code, 1, (Option.some Jvm.ClassFile.FieldType.boolean)),
  (⟨"TrailerYardsModel", "isWorth", "(I)Z"⟩, prog_14_method_30_code, 1, (Option.some Jvm.ClassFile.FieldType.boolean)),
  (⟨"TrailerYardsModel", "trailer", "(III)I"⟩, prog_14_method_31_code, 4, (Option.some Jvm.ClassFile.FieldType.int)),
  (⟨"TrailerYardsModel", "trailerTells", "(II)I"⟩, prog_14_method_32_code, 3, (Option.some Jvm.ClassFile.FieldType.int)),
  (⟨"TrailerYardsModel", "told", "(II)I"⟩, prog_14_method_33_code, 3, (Option.some Jvm.ClassFile.FieldType.int)),
  (⟨"TrailerYardsModel", "isCold", "(I)Z"⟩, prog_14_method_34_code, 2, (Option.some Jvm.ClassFile.FieldType.boolean)),
  (⟨"TrailerYardsModel", "entryFrom", "(II)I"⟩, prog_14_method_35_code, 4, (Option.some Jvm.ClassFile.FieldType.int)),
  (⟨"TrailerYardsModel", "mark", "(II)I"⟩, prog_14_method_36_code, 3, (Option.some Jvm.ClassFile.FieldType.int)),
  (⟨"TrailerYardsModel", "limit", "(II)I"⟩, prog_14_method_37_code, 3, (Option.some Jvm.ClassFile.FieldType.int)),
  (⟨"TrailerYardsModel", "isOnWay", "(I)Z"⟩, prog_14_method_38_code, 2, (Option.some Jvm.ClassFile.FieldType.boolean)),
  (⟨"TrailerYardsModel", "park", "(II)I"⟩, prog_14_method_39_code, 3, (Option.some Jvm.ClassFile.FieldType.int)),
  (⟨"TrailerYardsModel", "hitch", "(II)I"⟩, prog_14_method_40_code, 3, (Option.some Jvm.ClassFile.FieldType.int)),
  (⟨"TrailerYardsModel", "drop", "(I)I"⟩, prog_14_method_41_code, 3, (Option.some Jvm.ClassFile.FieldType.int)),
  (⟨"TrailerYardsModel", "go", "(II)I"⟩, prog_14_method_42_code, 6, (Option.some Jvm.ClassFile.FieldType.int)),
  (⟨"TrailerYardsModel", "tractorTells", "(II)I"⟩, prog_14_method_43_code, 3, (Option.some Jvm.ClassFile.FieldType.int)),
  (⟨"TrailerYardsModel", "tractor", "(II)I"⟩, prog_14_method_44_code, 3, (Option.some Jvm.ClassFile.FieldType.int)),
  (⟨"TrailerYardsModel", "lose", "(I)I"⟩, prog_14_method_45_code, 2, (Option.some Jvm.ClassFile.FieldType.int)),
  (⟨"TrailerYardsModel", "find", "(II)I"⟩, prog_14_method_46_code, 3, (Option.some Jvm.ClassFile.FieldType.int)),
  (⟨"TrailerYardsModel", "seal", "(II)I"⟩, prog_14_method_47_code, 3, (Option.some Jvm.ClassFile.FieldType.int)),
  (⟨"TrailerYardsModel", "book", "(III)I"⟩, prog_14_method_48_code, 6, (Option.some Jvm.ClassFile.FieldType.int)),
  (⟨"TrailerYardsModel", "where", "(II)I"⟩, prog_14_method_49_code, 5, (Option.some Jvm.ClassFile.FieldType.int)),
  (⟨"TrailerYardsModel", "isDigit", "(I)Z"⟩, prog_14_method_50_code, 1, (Option.some Jvm.ClassFile.FieldType.boolean)),
  (⟨"TrailerYardsModel", "reads", "(I)I"⟩, prog_14_method_51_code, 9, (Option.some Jvm.ClassFile.FieldType.int)),
  (⟨"TrailerYardsModel", "fault", "(I)I"⟩, prog_14_method_52_code, 3, (Option.some Jvm.ClassFile.FieldType.int)),
  (⟨"TrailerYardsModel", "isDay", "(I)Z"⟩, prog_14_method_53_code, 1, (Option.some Jvm.ClassFile.FieldType.boolean)),
  (⟨"TrailerYardsModel", "terms", "(II)I"⟩, prog_14_method_54_code, 4, (Option.some Jvm.ClassFile.FieldType.int)),
  (⟨"TrailerYardsModel", "inForce", "(IIII)I"⟩, prog_14_method_55_code, 9, (Option.some Jvm.ClassFile.FieldType.int)),
  (⟨"TrailerYardsModel", "force", "(IIII)I"⟩, prog_14_method_56_code, 5, (Option.some Jvm.ClassFile.FieldType.int)),
  (⟨"TrailerYardsModel", "detention", "(I)I"⟩, prog_14_method_57_code, 7, (Option.some Jvm.ClassFile.FieldType.int)),
  (⟨"TrailerYardsModel", "pence", "()J"⟩, prog_14_method_58_code, 1, (Option.some Jvm.ClassFile.FieldType.long)),
  (⟨"TrailerYardsModel", "law", "(II)I"⟩, prog_14_method_59_code, 3, (Option.some Jvm.ClassFile.FieldType.int)),
  (⟨"TrailerYardsModel", "load", "(III)I"⟩, prog_14_method_60_code, 4, (Option.some Jvm.ClassFile.FieldType.int)),
  (⟨"TrailerYardsModel", "unload", "(I)I"⟩, prog_14_method_61_code, 3, (Option.some Jvm.ClassFile.FieldType.int)),
  (⟨"TrailerYardsModel", "isAxle", "(I)Z"⟩, prog_14_method_62_code, 1, (Option.some Jvm.ClassFile.FieldType.boolean)),
  (⟨"TrailerYardsModel", "slide", "(II)I"⟩, prog_14_method_63_code, 4, (Option.some Jvm.ClassFile.FieldType.int)),
  (⟨"TrailerYardsModel", "sumOf", "(IZ)J"⟩, prog_14_method_64_code, 6, (Option.some Jvm.ClassFile.FieldType.long)),
  (⟨"TrailerYardsModel", "liesOn", "(IIZ)J"⟩, prog_14_method_65_code, 4, (Option.some Jvm.ClassFile.FieldType.long)),
  (⟨"TrailerYardsModel", "weight", "(IZ)I"⟩, prog_14_method_66_code, 3, (Option.some Jvm.ClassFile.FieldType.int)),
  (⟨"TrailerYardsModel", "isLawful", "(II)Z"⟩, prog_14_method_67_code, 5, (Option.some Jvm.ClassFile.FieldType.boolean)),
  (⟨"TrailerYardsModel", "lawful", "(I)I"⟩, prog_14_method_68_code, 2, (Option.some Jvm.ClassFile.FieldType.int)),
  (⟨"TrailerYardsModel", "shift", "(I)I"⟩, prog_14_method_69_code, 3, (Option.some Jvm.ClassFile.FieldType.int)),
  (⟨"TrailerYardsModel", "cold", "(III)I"⟩, prog_14_method_70_code, 12, (Option.some Jvm.ClassFile.FieldType.int)),
  (⟨"TrailerYardsModel", "mean", "(I)I"⟩, prog_14_method_71_code, 8, (Option.some Jvm.ClassFile.FieldType.int)),
  (⟨"TrailerYardsModel", "findTheft", "(I)Z"⟩, prog_14_method_72_code, 3, (Option.some Jvm.ClassFile.FieldType.boolean)),
  (⟨"TrailerYardsModel", "theft", "(I)I"⟩, prog_14_method_73_code, 2, (Option.some Jvm.ClassFile.FieldType.int)),
  (⟨"TrailerYardsModel", "bits", "(I)I"⟩, prog_14_method_74_code, 3, (Option.some Jvm.ClassFile.FieldType.int)),
  (⟨"TrailerYardsModel", "hands", "(I)I"⟩, prog_14_method_75_code, 5, (Option.some Jvm.ClassFile.FieldType.int)),
  (⟨"TrailerYardsModel", "swapsAt", "(IIIIII)Z"⟩, prog_14_method_76_code, 10, (Option.some Jvm.ClassFile.FieldType.boolean)),
  (⟨"TrailerYardsModel", "maySwap", "(I)Z"⟩, prog_14_method_77_code, 2, (Option.some Jvm.ClassFile.FieldType.boolean)),
  (⟨"TrailerYardsModel", "bestSwap", "(IIII)I"⟩, prog_14_method_78_code, 8, (Option.some Jvm.ClassFile.FieldType.int)),
  (⟨"TrailerYardsModel", "swap", "(IIII)I"⟩, prog_14_method_79_code, 6, (Option.some Jvm.ClassFile.FieldType.int)),
  (⟨"TrailerYardsModel", "pairEnd", "(III)I"⟩, prog_14_method_80_code, 5, (Option.some Jvm.ClassFile.FieldType.int)),
  (⟨"TrailerYardsModel", "pairs", "(II)I"⟩, prog_14_method_81_code, 10, (Option.some Jvm.ClassFile.FieldType.int)),
  (⟨"TrailerYardsModel", "partWays", "(III)I"⟩, prog_14_method_82_code, 10, (Option.some Jvm.ClassFile.FieldType.int)),
  (⟨"TrailerYardsModel", "partner", "(I)I"⟩, prog_14_method_83_code, 2, (Option.some Jvm.ClassFile.FieldType.int)),
  (⟨"TrailerYardsModel", "late", "(IIIIII)I"⟩, prog_14_method_84_code, 13, (Option.some Jvm.ClassFile.FieldType.int)),
  (⟨"TrailerYardsModel", "yardsOf", "(I)I"⟩, prog_14_method_85_code, 5, (Option.some Jvm.ClassFile.FieldType.int)),
  (⟨"TrailerYardsModel", "canBe", "(I)I"⟩, prog_14_method_86_code, 2, (Option.some Jvm.ClassFile.FieldType.int)),
  (⟨"TrailerYardsModel", "nextOrder", "(I)Z"⟩, prog_14_method_87_code, 8, (Option.some Jvm.ClassFile.FieldType.boolean)),
  (⟨"TrailerYardsModel", "look", "(III)I"⟩, prog_14_method_88_code, 14, (Option.some Jvm.ClassFile.FieldType.int)),
  (⟨"TrailerYardsModel", "looked", "(I)I"⟩, prog_14_method_89_code, 2, (Option.some Jvm.ClassFile.FieldType.int)),
  (⟨"TrailerYardsModel", "nextBrought", "()I"⟩, prog_14_method_90_code, 5, (Option.some Jvm.ClassFile.FieldType.int)),
  (⟨"TrailerYardsModel", "pool", "(II)I"⟩, prog_14_method_91_code, 8, (Option.some Jvm.ClassFile.FieldType.int)),
  (⟨"TrailerYardsModel", "costOf", "(IIIIIII)J"⟩, prog_14_method_92_code, 9, (Option.some Jvm.ClassFile.FieldType.long)),
  (⟨"TrailerYardsModel", "rent", "(IIIII)I"⟩, prog_14_method_93_code, 14, (Option.some Jvm.ClassFile.FieldType.int)),
  (⟨"TrailerYardsModel", "rented", "(I)I"⟩, prog_14_method_94_code, 2, (Option.some Jvm.ClassFile.FieldType.int)),
  (⟨"TrailerYardsModel", "asked", "()I"⟩, prog_14_method_95_code, 1, (Option.some Jvm.ClassFile.FieldType.int)),
  (⟨"TrailerYardsModel", "upper", "()J"⟩, prog_14_method_96_code, 1, (Option.some Jvm.ClassFile.FieldType.long)),
  (⟨"TrailerYardsModel", "lower", "()J"⟩, prog_14_method_97_code, 1, (Option.some Jvm.ClassFile.FieldType.long)),
  (⟨"TrailerYardsModel", "counts", "(I)I"⟩, prog_14_method_98_code, 4, (Option.some Jvm.ClassFile.FieldType.int)),
  (⟨"TrailerYardsModel", "count", "(I)I"⟩, prog_14_method_99_code, 2, (Option.some Jvm.ClassFile.FieldType.int)),
  (⟨"TrailerYardsModel", "finding", "()I"⟩, prog_14_method_100_code, 1, (Option.some Jvm.ClassFile.FieldType.int)),
  (⟨"TrailerYardsModel", "findings", "(I)I"⟩, prog_14_method_101_code, 2, (Option.some Jvm.ClassFile.FieldType.int)),
  (⟨"TrailerYardsModel", "mix", "(I)V"⟩, prog_14_method_102_code, 2, (Option.none : Option Jvm.ClassFile.FieldType)),
  (⟨"TrailerYardsModel", "digest", "()J"⟩, prog_14_method_103_code, 3, (Option.some Jvm.ClassFile.FieldType.long)),
  (⟨"java/lang/Integer", "bitCount", "(I)I"⟩, prog_15_method_49_code, 1, (Option.some Jvm.ClassFile.FieldType.int)),
  (⟨"java/lang/Math", "floorMod", "(II)I"⟩, prog_16_method_50_code, 3, (Option.some Jvm.ClassFile.FieldType.int)),
  (⟨"java/lang/Math", "abs", "(J)J"⟩, prog_16_method_61_code, 2, (Option.some Jvm.ClassFile.FieldType.long)),
  (⟨"java/lang/Math", "max", "(II)I"⟩, prog_16_method_65_code, 2, (Option.some Jvm.ClassFile.FieldType.int)),
  (⟨"java/lang/Math", "min", "(II)I"⟩, prog_16_method_69_code, 2, (Option.some Jvm.ClassFile.FieldType.int)),
  (⟨"java/lang/Math", "min", "(JJ)J"⟩, prog_16_method_70_code, 4, (Option.some Jvm.ClassFile.FieldType.long)),
  (⟨"java/util/Arrays", "fill", "([II)V"⟩, prog_18_method_103_code, 4, (Option.none : Option Jvm.ClassFile.FieldType)),
  (x, code, maxLocals, ret)]
def tqmi (k : Nat) : MethodName × ByteArray × Nat × Option Jvm.ClassFile.FieldType := tqMl.getD k (x, code, maxLocals, ret)
def tqRn : Nat → String := fun k => match k with
  | 0 => tqR0
  | 1 => tqR1
  | 2 => tqR2
  | 3 => tqR3
  | 4 => tqR4
  | 5 => tqR5
  | 6 => tqR6
  | 7 => tqR7
  | 8 => tqR8
  | 9 => tqR9
  | 10 => tqR10
  | 11 => tqR11
  | 12 => tqR12
  | 13 => "TrailerYardsLaw"
  | 14 => "java/lang/Integer"
  | 15 => "java/lang/Math"
  | 16 => "java/lang/System"
  | _ => "java/util/Arrays"
def tqTn : Nat → u_T := fun k => match k with
  | 0 => tqT0
  | 1 => tqT1
  | 2 => tqT2
  | 3 => tqT3
  | 4 => tqT4
  | 5 => tqT5
  | 6 => tqT6
  | 7 => tqT7
  | 8 => tqT8
  | 9 => tqT9
  | 10 => tqT10
  | 11 => tqT11
  | _ => tqT12
def tqYn : Nat → (Nat → Jvm.ClassFile.FieldType) := fun k => match k with
  | 0 => tqY0
  | 1 => tqY1
  | 2 => tqY2
  | 3 => tqY3
  | 4 => tqY4
  | 5 => tqY5
  | 6 => tqY6
  | 7 => tqY7
  | 8 => tqY8
  | 9 => tqY9
  | 10 => tqY10
  | 11 => tqY11
  | _ => tqY12
/-- a method's class, by its number -/
def tqow (k : Nat) : Nat := ([0, 0, 0, 1, 1, 1, 1, 1, 1, 1, 1, 1, 1, 1, 1, 1, 1, 2, 2, 2, 2, 2, 2, 2, 2, 3, 3, 3, 3, 3, 3, 3, 3, 4, 4, 4, 4, 4, 5, 5, 5, 5, 6, 6, 6, 6, 6, 7, 7, 7, 7, 7, 7, 7, 7, 7, 8, 8, 8, 9, 9, 9, 9, 10, 10, 10, 10, 10, 10, 10, 10, 10, 10, 10, 11, 11, 11, 11, 11, 11, 11, 11, 11, 11, 11, 11, 11, 11, 11, 11, 11, 11, 11, 11, 11, 11, 11, 11, 11, 11, 11, 11, 11, 11, 11, 11, 11, 11, 11, 11, 11, 11, 11, 11, 11, 11, 11, 11, 11, 11, 11, 11, 11, 11, 11, 11, 11, 11, 11, 11, 11, 11, 11, 11, 11, 11, 11, 11, 11, 11, 11, 11, 11, 11, 11, 11, 11, 11, 11, 11, 11, 12, 12, 12, 12, 12, 12, 12, 12, 12, 12, 12, 12, 12, 12, 12, 12, 12, 12, 12, 12, 12, 12, 12, 12, 12, 12, 12, 12, 12, 12, 12, 12, 12, 12, 12, 12, 12, 12, 12, 12, 12, 12, 12, 12, 12, 12, 12, 12, 12, 12, 12, 12, 12, 12, 12, 12, 12, 12, 12, 12, 12, 12, 12, 12, 12, 12, 12, 12, 12, 12, 12, 12, 12, 12, 12, 12, 12, 12, 12, 12, 12, 12, 12, 12, 12, 12, 12, 12, 12, 12, 12, 12, 12, 12, 12, 12, 12, 12, 12, 12, 12, 12, 14, 15, 15, 15, 15, 15, 17, 13] : List Nat).getD k 0
/-- links: place in the tables, class, index, and what it is linked to -/
def tqFL : List (Nat × Nat × Nat × Nat × Nat × Nat) := [(135, 10, 9, 10, 0, 0), (136, 10, 15, 10, 1, 0), (137, 10, 18, 10, 2, 0), (138, 10, 21, 10, 3, 0), (139, 10, 24, 10, 4, 0), (140, 10, 35, 10, 5, 0), (141, 11, 404, 10, 5, 1), (162, 1, 11, 1, 0, 0), (163, 1, 15, 1, 1, 0), (164, 1, 18, 1, 2, 0), (165, 11, 258, 1, 2, 1), (166, 1, 21, 1, 3, 0), (167, 11, 261, 1, 3, 1), (168, 1, 24, 1, 4, 0), (169, 11, 255, 1, 4, 1), (187, 7, 11, 7, 0, 0), (188, 7, 15, 7, 1, 0), (189, 7, 18, 7, 2, 0), (190, 7, 21, 7, 3, 0), (191, 7, 24, 7, 4, 0), (192, 11, 405, 7, 4, 1), (211, 6, 9, 6, 0, 0), (212, 6, 15, 6, 1, 0), (213, 6, 18, 6, 2, 0), (214, 6, 21, 6, 3, 0), (215, 6, 24, 6, 4, 0), (216, 6, 27, 6, 5, 0), (217, 11, 338, 6, 5, 1), (218, 6, 30, 6, 6, 0), (219, 11, 322, 6, 6, 1), (220, 6, 35, 6, 7, 0), (221, 11, 325, 6, 7, 1), (222, 6, 38, 6, 8, 0), (250, 5, 11, 5, 0, 0), (251, 5, 16, 5, 1, 0), (252, 5, 20, 5, 2, 0), (253, 5, 23, 5, 3, 0), (254, 11, 370, 5, 3, 1), (255, 5, 47, 5, 4, 0), (256, 11, 369, 5, 4, 1), (257, 5, 50, 5, 5, 0), (258, 11, 366, 5, 5, 1), (259, 5, 37, 5, 6, 0), (281, 3, 9, 3, 0, 0), (282, 3, 15, 3, 1, 0), (283, 3, 18, 3, 2, 0), (284, 3, 22, 3, 3, 0), (285, 3, 25, 3, 4, 0), (286, 3, 28, 3, 5, 0), (287, 3, 31, 3, 6, 0), (288, 3, 34, 3, 7, 0), (289, 3, 37, 3, 8, 0), (290, 11, 377, 3, 8, 1), (317, 4, 11, 4, 0, 0), (318, 4, 15, 4, 1, 0), (319, 11, 392, 4, 1, 1), (320, 4, 37, 4, 2, 0), (321, 11, 389, 4, 2, 1), (322, 4, 18, 4, 3, 0), (323, 4, 22, 4, 4, 0), (324, 4, 25, 4, 5, 0), (325, 4, 28, 4, 6, 0), (326, 4, 50, 4, 7, 0), (350, 0, 9, 0, 0, 0), (351, 11, 413, 0, 0, 1), (352, 11, 410, 0, 1, 1), (353, 11, 303, 0, 2, 1), (354, 11, 267, 0, 3, 1), (355, 0, 29, 0, 4, 0), (356, 11, 395, 0, 4, 1), (357, 0, 15, 0, 5, 0), (358, 11, 398, 0, 5, 1), (377, 2, 9, 2, 0, 0), (378, 7, 37, 2, 0, 1), (379, 11, 115, 2, 0, 1), (380, 2, 15, 2, 1, 0), (381, 7, 34, 2, 1, 1), (382, 11, 122, 2, 1, 1), (393, 8, 18, 8, 0, 0), (394, 6, 67, 8, 0, 1), (395, 11, 212, 8, 0, 1), (396, 8, 15, 8, 1, 0), (397, 11, 215, 8, 1, 1), (398, 8, 9, 8, 2, 0), (399, 11, 221, 8, 2, 1), (400, 8, 21, 8, 3, 0), (401, 11, 218, 8, 3, 1), (402, 8, 24, 8, 4, 0), (403, 11, 232, 8, 4, 1), (415, 11, 11, 11, 0, 0), (416, 11, 15, 11, 1, 0), (417, 11, 20, 11, 2, 0), (418, 11, 26, 11, 3, 0), (419, 11, 33, 11, 4, 0), (420, 11, 40, 11, 5, 0), (421, 11, 47, 11, 6, 0), (422, 11, 54, 11, 7, 0), (423, 11, 61, 11, 8, 0), (424, 11, 68, 11, 9, 0), (425, 11, 75, 11, 10, 0), (426, 11, 82, 11, 11, 0), (427, 11, 172, 11, 12, 0), (428, 11, 140, 11, 13, 0), (429, 11, 86, 11, 14, 0), (430, 11, 90, 11, 15, 0), (629, 9, 18, 9, 0, 0), (630, 9, 24, 9, 1, 0), (631, 11, 436, 9, 1, 1), (632, 9, 27, 9, 2, 0), (633, 11, 199, 9, 2, 1), (634, 9, 21, 9, 3, 0), (635, 11, 224, 9, 3, 1), (636, 9, 9, 9, 4, 0), (637, 11, 225, 9, 4, 1), (638, 9, 33, 9, 5, 0), (639, 11, 236, 9, 5, 1), (640, 9, 40, 9, 6, 0), (641, 11, 240, 9, 6, 1), (642, 9, 30, 9, 7, 0), (643, 11, 193, 9, 7, 1), (644, 11, 202, 9, 8, 1), (645, 9, 15, 9, 9, 0), (646, 11, 280, 9, 9, 1), (647, 9, 37, 9, 10, 0), (648, 11, 271, 9, 10, 1), (649, 9, 43, 9, 11, 0), (650, 11, 274, 9, 11, 1), (651, 9, 46, 9, 12, 0), (652, 11, 277, 9, 12, 1), (1138, 12, 176, 12, 0, 0), (1139, 12, 7, 12, 1, 0), (1140, 12, 179, 12, 2, 0), (1141, 12, 182, 12, 3, 0), (1142, 12, 13, 12, 4, 0), (1143, 12, 207, 12, 5, 0), (1144, 12, 17, 12, 6, 0), (1145, 12, 20, 12, 7, 0), (1146, 12, 23, 12, 8, 0), (1147, 12, 26, 12, 9, 0), (1148, 12, 29, 12, 10, 0), (1149, 12, 32, 12, 11, 0), (1150, 12, 35, 12, 12, 0), (1151, 12, 38, 12, 13, 0), (1152, 12, 41, 12, 14, 0), (1153, 12, 44, 12, 15, 0), (1154, 12, 229, 12, 16, 0), (1155, 12, 47, 12, 17, 0), (1156, 12, 50, 12, 18, 0), (1157, 12, 53, 12, 19, 0), (1158, 12, 56, 12, 20, 0), (1159, 12, 60, 12, 21, 0), (1160, 12, 63, 12, 22, 0), (1161, 12, 66, 12, 23, 0), (1162, 12, 69, 12, 24, 0), (1163, 12, 72, 12, 25, 0), (1164, 12, 75, 12, 26, 0), (1165, 12, 78, 12, 27, 0), (1166, 12, 81, 12, 28, 0), (1167, 12, 84, 12, 29, 0), (1168, 12, 87, 12, 30, 0), (1169, 12, 90, 12, 31, 0), (1170, 12, 93, 12, 32, 0), (1171, 12, 96, 12, 33, 0), (1172, 12, 226, 12, 34, 0), (1173, 12, 99, 12, 35, 0), (1174, 12, 102, 12, 36, 0), (1175, 12, 105, 12, 37, 0), (1176, 12, 108, 12, 38, 0), (1177, 12, 111, 12, 39, 0), (1178, 12, 280, 12, 40, 0), (1179, 12, 114, 12, 41, 0), (1180, 12, 117, 12, 42, 0), (1181, 12, 120, 12, 43, 0), (1182, 12, 123, 12, 44, 0), (1183, 12, 283, 12, 45, 0), (1184, 12, 126, 12, 46, 0), (1185, 12, 130, 12, 47, 0), (1186, 12, 305, 12, 48, 0), (1187, 12, 308, 12, 49, 0), (1188, 12, 323, 12, 50, 0), (1189, 12, 326, 12, 51, 0), (1190, 12, 317, 12, 52, 0), (1191, 12, 320, 12, 53, 0), (1192, 12, 333, 12, 54, 0), (1193, 12, 133, 12, 55, 0), (1194, 12, 136, 12, 56, 0), (1195, 12, 139, 12, 57, 0), (1196, 12, 359, 12, 58, 0), (1197, 12, 142, 12, 59, 0), (1198, 12, 145, 12, 60, 0), (1199, 12, 148, 12, 61, 0), (1200, 12, 353, 12, 62, 0), (1201, 12, 151, 12, 63, 0), (1202, 12, 154, 12, 64, 0), (1203, 12, 157, 12, 65, 0), (1204, 12, 160, 12, 66, 0), (1205, 12, 163, 12, 67, 0), (1206, 12, 166, 12, 68, 0), (1207, 12, 372, 12, 69, 0), (1208, 12, 169, 12, 70, 0), (1209, 12, 172, 12, 71, 0), (1210, 12, 380, 12, 72, 0)]
def tqHL : List (Nat × Nat × Nat × Nat × Nat) := [(117, 13, 9, 74, 0), (120, 11, 3, 1000, 0), (131, 11, 32, 63, 1), (134, 10, 3, 1000, 0), (158, 11, 39, 3, 1), (161, 1, 3, 1000, 0), (183, 11, 46, 47, 1), (186, 7, 3, 1000, 0), (206, 11, 53, 42, 1), (209, 6, 3, 1000, 0), (244, 11, 60, 38, 1), (247, 5, 3, 1000, 0), (277, 11, 67, 25, 1), (280, 3, 3, 1000, 0), (313, 11, 74, 33, 1), (316, 4, 3, 1000, 0), (346, 11, 81, 0, 1), (349, 0, 3, 1000, 0), (373, 11, 93, 17, 1), (376, 2, 3, 1000, 0), (389, 11, 94, 56, 1), (392, 8, 3, 1000, 0), (464, 13, 13, 75, 0), (468, 11, 95, 140, 0), (471, 11, 99, 147, 0), (475, 11, 107, 149, 0), (479, 11, 448, 259, 0), (482, 13, 18, 76, 0), (486, 11, 103, 18, 1), (490, 11, 111, 19, 1), (494, 11, 119, 148, 0), (498, 13, 23, 77, 0), (502, 13, 28, 78, 0), (506, 11, 125, 20, 1), (510, 11, 129, 1001, 0), (513, 13, 33, 79, 0), (517, 13, 37, 80, 0), (521, 13, 41, 81, 0), (525, 11, 135, 49, 1), (529, 7, 28, 259, 0), (530, 7, 40, 134, 1), (533, 7, 44, 50, 0), (537, 7, 48, 51, 0), (540, 13, 45, 82, 0), (545, 13, 49, 83, 0), (549, 11, 143, 134, 0), (550, 11, 146, 133, 0), (553, 11, 150, 65, 1), (557, 10, 27, 134, 1), (558, 10, 31, 64, 0), (562, 10, 39, 66, 0), (566, 13, 54, 84, 0), (570, 11, 154, 64, 1), (571, 11, 157, 66, 1), (572, 13, 58, 85, 0), (576, 11, 160, 67, 1), (580, 10, 43, 70, 0), (585, 10, 48, 259, 0), (586, 10, 54, 71, 0), (589, 10, 68, 135, 1), (592, 10, 58, 72, 0), (596, 10, 71, 254, 0), (599, 10, 62, 257, 0), (602, 11, 164, 150, 0), (607, 13, 62, 86, 0), (611, 11, 167, 68, 1), (615, 13, 66, 87, 0), (620, 11, 175, 4, 1), (625, 11, 178, 59, 1), (628, 9, 3, 1000, 0), (680, 11, 180, 5, 1), (684, 1, 28, 4, 0), (685, 13, 70, 88, 0), (689, 11, 183, 141, 0), (693, 11, 187, 61, 1), (697, 13, 74, 89, 0), (701, 11, 190, 60, 1), (705, 11, 196, 136, 0), (708, 13, 78, 90, 0), (712, 13, 82, 91, 0), (716, 11, 205, 142, 0), (720, 11, 209, 57, 1), (724, 13, 86, 92, 0), (728, 13, 90, 93, 0), (732, 13, 94, 94, 0), (736, 11, 229, 53, 1), (740, 7, 62, 54, 0), (743, 13, 98, 95, 0), (747, 11, 235, 58, 1), (751, 13, 102, 96, 0), (755, 13, 106, 97, 0), (759, 13, 110, 98, 0), (763, 13, 114, 99, 0), (767, 11, 243, 7, 1), (771, 11, 246, 8, 1), (775, 13, 118, 100, 0), (779, 11, 248, 9, 1), (783, 1, 32, 6, 0), (787, 13, 122, 101, 0), (791, 11, 251, 48, 1), (795, 11, 252, 52, 1), (799, 7, 52, 48, 0), (800, 7, 56, 1001, 0), (801, 13, 126, 102, 0), (805, 13, 130, 103, 0), (809, 11, 256, 6, 1), (810, 11, 264, 10, 1), (814, 13, 134, 104, 0), (818, 13, 139, 105, 0), (822, 13, 143, 106, 0), (826, 13, 147, 107, 0), (830, 13, 151, 108, 0), (834, 13, 155, 109, 0), (838, 11, 283, 1, 1), (842, 0, 19, 255, 0), (845, 0, 25, 2, 0), (848, 13, 160, 110, 0), (852, 11, 287, 62, 1), (856, 13, 164, 111, 0), (860, 13, 168, 112, 0), (864, 11, 290, 24, 1), (868, 2, 19, 256, 0), (871, 11, 293, 23, 1), (875, 13, 172, 113, 0), (879, 13, 176, 114, 0), (883, 11, 297, 11, 1), (887, 11, 300, 12, 1), (891, 13, 180, 115, 0), (895, 11, 306, 13, 1), (899, 11, 309, 253, 0), (905, 13, 184, 116, 0), (909, 11, 314, 145, 0), (913, 11, 318, 43, 1), (917, 6, 41, 70, 1), (918, 6, 47, 256, 0), (919, 6, 53, 134, 1), (920, 13, 188, 117, 0), (924, 11, 328, 21, 1), (928, 11, 331, 135, 0), (929, 11, 334, 44, 1), (933, 6, 57, 259, 0), (934, 6, 63, 135, 1), (935, 6, 72, 43, 0), (936, 6, 76, 45, 0), (939, 6, 80, 1001, 0), (940, 6, 86, 46, 0), (943, 13, 192, 118, 0), (947, 13, 196, 119, 0), (951, 11, 341, 256, 0), (952, 11, 346, 143, 0), (957, 11, 351, 258, 0), (960, 13, 201, 120, 0), (964, 11, 355, 146, 0), (968, 11, 439, 14, 1), (972, 11, 442, 15, 1), (976, 11, 445, 69, 1), (980, 13, 205, 121, 0), (984, 11, 358, 22, 1), (988, 11, 362, 39, 1), (992, 5, 26, 70, 1), (993, 5, 32, 135, 1), (995, 5, 41, 253, 0), (996, 5, 53, 40, 0), (999, 5, 57, 1001, 0), (1000, 5, 63, 41, 0), (1004, 13, 209, 122, 0), (1008, 13, 213, 123, 0), (1012, 11, 373, 26, 1), (1016, 3, 41, 256, 0), (1017, 3, 47, 259, 0), (1018, 3, 53, 27, 0), (1023, 3, 69, 70, 1), (1024, 3, 57, 28, 0), (1028, 3, 75, 29, 0), (1032, 3, 60, 30, 0), (1036, 3, 64, 31, 0), (1040, 3, 79, 257, 0), (1041, 11, 379, 32, 1), (1045, 13, 217, 124, 0), (1049, 11, 382, 34, 1), (1053, 11, 385, 35, 1), (1057, 4, 31, 257, 0), (1058, 4, 40, 259, 0), (1059, 4, 46, 36, 0), (1064, 4, 54, 37, 0), (1068, 4, 58, 256, 0), (1069, 13, 221, 125, 0), (1073, 13, 225, 126, 0), (1077, 13, 230, 127, 0), (1081, 13, 234, 128, 0), (1085, 13, 238, 129, 0), (1089, 11, 401, 144, 0), (1093, 11, 406, 139, 0), (1096, 13, 242, 130, 0), (1100, 13, 246, 131, 0), (1104, 13, 250, 132, 0), (1109, 11, 418, 129, 0), (1110, 11, 421, 137, 0), (1114, 11, 424, 73, 1), (1118, 10, 74, 137, 1), (1119, 11, 428, 16, 1), (1123, 1, 36, 137, 1), (1124, 11, 429, 55, 1), (1128, 7, 65, 137, 1), (1129, 11, 430, 138, 0), (1134, 13, 12, 151, 0), (1137, 12, 1, 1000, 0), (1359, 13, 17, 159, 0), (1363, 12, 189, 157, 0), (1366, 12, 185, 152, 0), (1369, 12, 193, 153, 0), (1373, 13, 22, 160, 0), (1377, 12, 197, 158, 0), (1381, 13, 27, 161, 0), (1385, 13, 32, 162, 0), (1389, 13, 36, 165, 0), (1393, 12, 200, 163, 0), (1396, 13, 40, 166, 0), (1400, 12, 203, 164, 0), (1404, 13, 48, 167, 0), (1409, 13, 53, 170, 0), (1413, 12, 210, 168, 0), (1416, 12, 213, 169, 0), (1420, 13, 57, 171, 0), (1424, 13, 61, 174, 0), (1428, 12, 222, 173, 0), (1433, 12, 218, 172, 0), (1437, 13, 65, 175, 0), (1441, 13, 69, 180, 0), (1445, 12, 233, 179, 0), (1449, 12, 236, 176, 0), (1453, 13, 73, 182, 0), (1457, 12, 240, 177, 0), (1461, 12, 243, 181, 0), (1465, 12, 246, 154, 0), (1469, 13, 77, 185, 0), (1473, 12, 249, 183, 0), (1477, 12, 252, 156, 0), (1480, 12, 255, 184, 0), (1484, 13, 81, 186, 0), (1488, 13, 85, 188, 0), (1492, 12, 258, 178, 0), (1495, 12, 261, 187, 0), (1499, 13, 89, 189, 0), (1503, 13, 93, 190, 0), (1507, 13, 97, 191, 0), (1511, 12, 264, 204, 0), (1515, 13, 101, 193, 0), (1519, 12, 268, 192, 0), (1523, 13, 105, 194, 0), (1527, 13, 109, 195, 0), (1531, 13, 113, 196, 0), (1535, 13, 117, 197, 0), (1539, 13, 121, 198, 0), (1543, 13, 44, 201, 0), (1547, 12, 274, 200, 0), (1551, 12, 271, 199, 0), (1554, 13, 125, 203, 0), (1558, 12, 277, 202, 0), (1561, 13, 129, 205, 0), (1565, 13, 133, 206, 0), (1569, 13, 138, 207, 0), (1573, 13, 142, 208, 0), (1577, 13, 146, 209, 0), (1581, 13, 150, 210, 0), (1585, 13, 154, 212, 0), (1589, 12, 286, 211, 0), (1592, 13, 159, 215, 0), (1596, 12, 293, 214, 0), (1600, 12, 289, 213, 0), (1604, 12, 297, 155, 0), (1608, 13, 163, 217, 0), (1612, 12, 301, 216, 0), (1616, 13, 167, 218, 0), (1620, 13, 171, 219, 0), (1624, 13, 175, 220, 0), (1628, 13, 179, 222, 0), (1632, 12, 311, 221, 0), (1636, 13, 183, 224, 0), (1640, 12, 314, 223, 0), (1643, 13, 187, 228, 0), (1647, 12, 336, 226, 0), (1651, 12, 339, 227, 0), (1655, 12, 329, 225, 0), (1659, 13, 191, 230, 0), (1663, 12, 342, 231, 0), (1667, 12, 345, 229, 0), (1671, 13, 195, 232, 0), (1675, 13, 200, 233, 0), (1680, 13, 204, 235, 0), (1684, 12, 350, 234, 0), (1688, 13, 208, 237, 0), (1692, 12, 356, 236, 0), (1696, 13, 212, 238, 0), (1700, 13, 216, 240, 0), (1704, 12, 362, 239, 0), (1708, 13, 220, 242, 0), (1713, 12, 368, 241, 0), (1716, 13, 224, 243, 0), (1720, 13, 229, 244, 0), (1724, 13, 233, 245, 0), (1728, 13, 237, 246, 0), (1732, 13, 241, 248, 0), (1736, 12, 375, 247, 0), (1740, 13, 245, 249, 0), (1744, 13, 249, 250, 0), (1748, 13, 253, 252, 0), (1753, 12, 385, 251, 0)]
def tqCL : List (Nat × Nat × Nat × Nat) := [(115, 13, 7, 11), (123, 11, 9, 2), (125, 11, 18, 8), (127, 11, 24, 9), (129, 11, 30, 10), (156, 11, 37, 1), (181, 11, 44, 7), (204, 11, 51, 6), (242, 11, 58, 5), (248, 5, 9, 99), (275, 11, 65, 3), (311, 11, 72, 4), (344, 11, 79, 0), (1132, 13, 10, 12)]
def tqKL : List (Nat × Nat × Nat × Int) := [(210, 6, 34, 2147483647), (544, 11, 139, 99999), (584, 10, 47, 2147483647), (606, 11, 228, 2147483647), (619, 11, 171, 100000), (902, 14, 265, 1431655765), (903, 14, 266, 858993459), (904, 14, 267, 252645135), (994, 5, 36, 2147483647), (1022, 3, 68, 2147483647), (1063, 4, 53, 2147483647), (1408, 12, 206, 99999), (1432, 12, 217, 100000000), (1448, 12, 232, 100000)]
def tqJL : List (Nat × Nat × Nat × Int) := [(956, 11, 349, 1000), (1108, 11, 416, 17), (1113, 11, 434, 31), (1679, 12, 348, 1000), (1712, 12, 366, (-1)), (1752, 12, 383, 17), (1757, 12, 378, 31)]
def tqfw (q : Nat × Nat × Nat × Nat × Nat × Nat) : Cond := match q with
  | (_, o, i, k, j, 0) => .fieldLink (tqRn o) i (tqRn k) (tqTn k j).2.1 (tqTn k j).2.2.1
  | (_, o, i, k, j, _) => .fieldLinkNest (tqRn o) i (tqRn k) (tqTn k j).2.1 (tqTn k j).2.2.1 "TrailerYards"
def tqhy (k : Nat) : MethodName := if k = 1000 then Jvm.Lib.objectInit else if k = 1001 then arraycopyName else (tqmi k).1
def tqhw (q : Nat × Nat × Nat × Nat × Nat) : Cond := match q with
  | (_, o, i, k, 0) => .methodLink (tqRn o) i (tqhy k)
  | (_, o, i, k, _) => .methodLinkNest (tqRn o) i (tqhy k) "TrailerYards"
def tqcw (q : Nat × Nat × Nat × Nat) : Cond := match q with
  | (_, o, i, 99) => .classLink (tqRn o) i "[[I"
  | (_, o, i, k) => .classLink (tqRn o) i (tqRn k)
def tqkw (q : Nat × Nat × Nat × Int) : Cond := .constant (tqRn q.2.1) q.2.2.1 (Int32.ofInt q.2.2.2)
def tqjw (q : Nat × Nat × Nat × Int) : Cond := .constantLong (tqRn q.2.1) q.2.2.1 (Int64.ofInt q.2.2.2)
set_option maxRecDepth 100000 in
set_option maxHeartbeats 4000000 in
theorem tqFL_ok : ∀ q ∈ tqFL, lw_tbl[q.1]? = some (tqfw q) := by decide +kernel
set_option maxRecDepth 100000 in
set_option maxHeartbeats 4000000 in
theorem tqHL_ok : ∀ q ∈ tqHL, lw_tbl[q.1]? = some (tqhw q) := by decide +kernel
set_option maxRecDepth 100000 in
set_option maxHeartbeats 4000000 in
theorem tqCL_ok : ∀ q ∈ tqCL, lw_tbl[q.1]? = some (tqcw q) := by decide +kernel
set_option maxRecDepth 100000 in
set_option maxHeartbeats 4000000 in
theorem tqKL_ok : ∀ q ∈ tqKL, lw_tbl[q.1]? = some (tqkw q) := by decide +kernel
set_option maxRecDepth 100000 in
set_option maxHeartbeats 4000000 in
theorem tqJL_ok : ∀ q ∈ tqJL, lw_tbl[q.1]? = some (tqjw q) := by decide +kernel
/-- of each method: places of its code, is it static, static or instance word, selects, initialized -/
def tqKF : List (Nat × Nat × Nat × Nat × Nat) := [(348, 0, 347, 999999, 106), (841, 0, 840, 32, 106), (847, 1, 846, 999999, 106), (160, 0, 159, 999999, 100), (623, 0, 622, 16, 100), (683, 0, 682, 17, 100), (786, 0, 785, 28, 100), (770, 0, 769, 25, 100), (774, 0, 773, 26, 100), (782, 0, 781, 27, 100), (813, 0, 812, 31, 100), (886, 0, 885, 36, 100), (890, 0, 889, 37, 100), (898, 0, 897, 38, 100), (971, 0, 970, 45, 100), (975, 0, 974, 46, 100), (1122, 0, 1121, 64, 100), (375, 0, 374, 999999, 107), (489, 0, 488, 2, 107), (493, 0, 492, 3, 107), (509, 0, 508, 5, 107), (927, 0, 926, 41, 107), (987, 0, 986, 48, 107), (874, 0, 873, 35, 107), (867, 0, 866, 34, 107), (279, 0, 278, 999999, 104), (1015, 0, 1014, 51, 104), (1021, 0, 1020, 52, 104), (1027, 0, 1026, 53, 104), (1031, 0, 1030, 54, 104), (1035, 0, 1034, 55, 104), (1039, 0, 1038, 56, 104), (1044, 0, 1043, 57, 104), (315, 0, 314, 999999, 105), (1052, 0, 1051, 58, 105), (1056, 0, 1055, 59, 105), (1062, 0, 1061, 60, 105), (1067, 0, 1066, 61, 105), (246, 0, 245, 999999, 103), (991, 0, 990, 49, 103), (998, 1, 997, 999999, 103), (1003, 0, 1002, 50, 103), (208, 0, 207, 999999, 102), (916, 0, 915, 40, 102), (932, 0, 931, 42, 102), (938, 1, 937, 999999, 102), (942, 1, 941, 999999, 102), (185, 0, 184, 999999, 101), (794, 0, 793, 29, 101), (528, 0, 527, 6, 101), (536, 0, 535, 7, 101), (539, 1, 538, 999999, 101), (798, 0, 797, 30, 101), (739, 0, 738, 23, 101), (742, 1, 741, 999999, 101), (1127, 0, 1126, 65, 101), (391, 0, 390, 999999, 108), (723, 0, 722, 22, 108), (750, 0, 749, 24, 108), (627, 0, 626, 999999, 113), (704, 0, 703, 20, 113), (696, 0, 695, 19, 113), (855, 0, 854, 33, 113), (133, 0, 132, 999999, 99), (561, 0, 560, 9, 99), (556, 0, 555, 8, 99), (565, 0, 564, 10, 99), (579, 0, 578, 11, 99), (614, 0, 613, 15, 99), (979, 0, 978, 47, 99), (583, 0, 582, 12, 99), (588, 1, 587, 999999, 99), (595, 0, 594, 13, 99), (1117, 0, 1116, 63, 99), (119, 0, 118, 999999, 98), (467, 0, 465, 466, 98), (485, 0, 483, 484, 98), (501, 0, 499, 500, 98), (505, 0, 503, 504, 98), (516, 0, 514, 515, 98), (520, 0, 518, 519, 98), (524, 0, 522, 523, 98), (543, 0, 541, 542, 98), (548, 0, 546, 547, 98), (569, 0, 567, 568, 98), (575, 0, 573, 574, 98), (610, 0, 608, 609, 98), (618, 0, 616, 617, 98), (688, 0, 686, 687, 98), (700, 0, 698, 699, 98), (711, 0, 709, 710, 98), (715, 0, 713, 714, 98), (727, 0, 725, 726, 98), (731, 0, 729, 730, 98), (735, 0, 733, 734, 98), (746, 0, 744, 745, 98), (754, 0, 752, 753, 98), (758, 0, 756, 757, 98), (762, 0, 760, 761, 98), (766, 0, 764, 765, 98), (778, 0, 776, 777, 98), (790, 0, 788, 789, 98), (804, 0, 802, 803, 98), (808, 0, 806, 807, 98), (817, 0, 815, 816, 98), (821, 0, 819, 820, 98), (825, 0, 823, 824, 98), (829, 0, 827, 828, 98), (833, 0, 831, 832, 98), (837, 0, 835, 836, 98), (851, 0, 849, 850, 98), (859, 0, 857, 858, 98), (863, 0, 861, 862, 98), (878, 0, 876, 877, 98), (882, 0, 880, 881, 98), (894, 0, 892, 893, 98), (908, 0, 906, 907, 98), (923, 0, 921, 922, 98), (946, 0, 944, 945, 98), (950, 0, 948, 949, 98), (963, 0, 961, 962, 98), (983, 0, 981, 982, 98), (1007, 0, 1005, 1006, 98), (1011, 0, 1009, 1010, 98), (1048, 0, 1046, 1047, 98), (1072, 0, 1070, 1071, 98), (1076, 0, 1074, 1075, 98), (1080, 0, 1078, 1079, 98), (1084, 0, 1082, 1083, 98), (1088, 0, 1086, 1087, 98), (1099, 0, 1097, 1098, 98), (1103, 0, 1101, 1102, 98), (1107, 0, 1105, 1106, 98), (552, 1, 551, 999999, 98), (532, 1, 531, 999999, 98), (591, 1, 590, 999999, 98), (707, 1, 706, 999999, 98), (1112, 1, 1111, 999999, 98), (1131, 1, 1130, 999999, 98), (1095, 1, 1094, 999999, 98), (470, 1, 469, 999999, 98), (692, 0, 691, 18, 98), (719, 0, 718, 21, 98), (955, 0, 954, 43, 98), (1092, 0, 1091, 62, 98), (912, 0, 911, 39, 98), (967, 0, 966, 44, 98), (474, 0, 473, 0, 98), (497, 0, 496, 4, 98), (478, 0, 477, 1, 98), (605, 0, 604, 14, 98), (1136, 0, 1135, 999999, 109), (1368, 1, 1367, 999999, 109), (1372, 0, 1371, 66, 109), (1468, 0, 1467, 75, 109), (1607, 0, 1606, 84, 109), (1479, 1, 1478, 999999, 109), (1365, 1, 1364, 999999, 109), (1380, 0, 1379, 67, 109), (1362, 0, 1360, 1361, 109), (1376, 0, 1374, 1375, 109), (1384, 0, 1382, 1383, 109), (1388, 0, 1386, 1387, 109), (1395, 1, 1394, 999999, 109), (1403, 0, 1402, 68, 109), (1392, 0, 1390, 1391, 109), (1399, 0, 1397, 1398, 109), (1407, 0, 1405, 1406, 109), (1415, 1, 1414, 999999, 109), (1419, 0, 1418, 69, 109), (1412, 0, 1410, 1411, 109), (1423, 0, 1421, 1422, 109), (1436, 0, 1435, 71, 109), (1431, 0, 1430, 70, 109), (1427, 0, 1425, 1426, 109), (1440, 0, 1438, 1439, 109), (1452, 0, 1451, 72, 109), (1460, 0, 1459, 73, 109), (1494, 1, 1493, 999999, 109), (1447, 1, 1446, 999999, 109), (1444, 0, 1442, 1443, 109), (1464, 0, 1463, 74, 109), (1456, 0, 1454, 1455, 109), (1476, 0, 1475, 76, 109), (1483, 0, 1482, 77, 109), (1472, 0, 1470, 1471, 109), (1487, 0, 1485, 1486, 109), (1498, 0, 1497, 78, 109), (1491, 0, 1489, 1490, 109), (1502, 0, 1500, 1501, 109), (1506, 0, 1504, 1505, 109), (1510, 0, 1508, 1509, 109), (1522, 0, 1521, 80, 109), (1518, 0, 1516, 1517, 109), (1526, 0, 1524, 1525, 109), (1530, 0, 1528, 1529, 109), (1534, 0, 1532, 1533, 109), (1538, 0, 1536, 1537, 109), (1542, 0, 1540, 1541, 109), (1553, 1, 1552, 999999, 109), (1550, 0, 1549, 81, 109), (1546, 0, 1544, 1545, 109), (1560, 1, 1559, 999999, 109), (1557, 0, 1555, 1556, 109), (1514, 0, 1513, 79, 109), (1564, 0, 1562, 1563, 109), (1568, 0, 1566, 1567, 109), (1572, 0, 1570, 1571, 109), (1576, 0, 1574, 1575, 109), (1580, 0, 1578, 1579, 109), (1584, 0, 1582, 1583, 109), (1591, 1, 1590, 999999, 109), (1588, 0, 1586, 1587, 109), (1603, 0, 1602, 83, 109), (1599, 0, 1598, 82, 109), (1595, 0, 1593, 1594, 109), (1615, 0, 1614, 85, 109), (1611, 0, 1609, 1610, 109), (1619, 0, 1617, 1618, 109), (1623, 0, 1621, 1622, 109), (1627, 0, 1625, 1626, 109), (1635, 0, 1634, 86, 109), (1631, 0, 1629, 1630, 109), (1642, 1, 1641, 999999, 109), (1639, 0, 1637, 1638, 109), (1658, 0, 1657, 89, 109), (1650, 0, 1649, 87, 109), (1654, 0, 1653, 88, 109), (1646, 0, 1644, 1645, 109), (1670, 0, 1669, 91, 109), (1662, 0, 1660, 1661, 109), (1666, 0, 1665, 90, 109), (1674, 0, 1672, 1673, 109), (1678, 0, 1676, 1677, 109), (1687, 0, 1686, 92, 109), (1683, 0, 1681, 1682, 109), (1695, 0, 1694, 93, 109), (1691, 0, 1689, 1690, 109), (1699, 0, 1697, 1698, 109), (1707, 0, 1706, 94, 109), (1703, 0, 1701, 1702, 109), (1715, 1, 1714, 999999, 109), (1711, 0, 1709, 1710, 109), (1719, 0, 1717, 1718, 109), (1723, 0, 1721, 1722, 109), (1727, 0, 1725, 1726, 109), (1731, 0, 1729, 1730, 109), (1739, 0, 1738, 95, 109), (1735, 0, 1733, 1734, 109), (1743, 0, 1741, 1742, 109), (1747, 0, 1745, 1746, 109), (1756, 0, 1755, 96, 109), (1751, 0, 1749, 1750, 109), (901, 1, 900, 999999, 114), (598, 1, 597, 999999, 112), (844, 1, 843, 999999, 112), (870, 1, 869, 999999, 112), (601, 1, 600, 999999, 112), (959, 1, 958, 999999, 112), (481, 1, 480, 999999, 110), (0, 0, 0, 0, 0)]
def tqkfok (k : Nat) (q : Nat × Nat × Nat × Nat × Nat) : Bool := decide (lw_tbl[q.1]? = some (.code (tqmi k).1 (tqmi k).2.1 (tqmi k).2.2.1 (tqmi k).2.2.2)) && decide (lw_tbl[q.2.2.1]? = some (bif Nat.beq q.2.1 1 then .static (tqmi k).1 else .instanceMethod (tqmi k).1)) && (Nat.beq q.2.2.2.1 999999 || decide (lw_tbl[q.2.2.2.1]? = some (.selects (tqmi k).1.cls (tqmi k).1 (tqmi k).1))) && decide (lw_tbl[q.2.2.2.2]? = some (.initialized (tqmi k).1.cls))
set_option maxRecDepth 100000 in
set_option maxHeartbeats 4000000 in
theorem tqkf_0 : ((List.range 30).map (fun i => (i + 0, tqKF.getD (i + 0) (0, 0, 0, 0, 0)))).all (fun q => tqkfok q.1 q.2) = true := by decide +kernel
set_option maxRecDepth 100000 in
set_option maxHeartbeats 4000000 in
theorem tqkf_30 : ((List.range 30).map (fun i => (i + 30, tqKF.getD (i + 30) (0, 0, 0, 0, 0)))).all (fun q => tqkfok q.1 q.2) = true := by decide +kernel
set_option maxRecDepth 100000 in
set_option maxHeartbeats 4000000 in
theorem tqkf_60 : ((List.range 30).map (fun i => (i + 60, tqKF.getD (i + 60) (0, 0, 0, 0, 0)))).all (fun q => tqkfok q.1 q.2) = true := by decide +kernel
set_option maxRecDepth 100000 in
set_option maxHeartbeats 4000000 in
theorem tqkf_90 : ((List.range 30).map (fun i => (i + 90, tqKF.getD (i + 90) (0, 0, 0, 0, 0)))).all (fun q => tqkfok q.1 q.2) = true := by decide +kernel
set_option maxRecDepth 100000 in
set_option maxHeartbeats 4000000 in
theorem tqkf_120 : ((List.range 30).map (fun i => (i + 120, tqKF.getD (i + 120) (0, 0, 0, 0, 0)))).all (fun q => tqkfok q.1 q.2) = true := by decide +kernel
set_option maxRecDepth 100000 in
set_option maxHeartbeats 4000000 in
theorem tqkf_150 : ((List.range 30).map (fun i => (i + 150, tqKF.getD (i + 150) (0, 0, 0, 0, 0)))).all (fun q => tqkfok q.1 q.2) = true := by decide +kernel
set_option maxRecDepth 100000 in
set_option maxHeartbeats 4000000 in
theorem tqkf_180 : ((List.range 30).map (fun i => (i + 180, tqKF.getD (i + 180) (0, 0, 0, 0, 0)))).all (fun q => tqkfok q.1 q.2) = true := by decide +kernel
set_option maxRecDepth 100000 in
set_option maxHeartbeats 4000000 in
theorem tqkf_210 : ((List.range 30).map (fun i => (i + 210, tqKF.getD (i + 210) (0, 0, 0, 0, 0)))).all (fun q => tqkfok q.1 q.2) = true := by decide +kernel
set_option maxRecDepth 100000 in
set_option maxHeartbeats 4000000 in
theorem tqkf_240 : ((List.range 20).map (fun i => (i + 240, tqKF.getD (i + 240) (0, 0, 0, 0, 0)))).all (fun q => tqkfok q.1 q.2) = true := by decide +kernel
