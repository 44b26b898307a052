def yK_init : YI := (⟨"KiteYards", "<init>", "()V"⟩, (prog_1_method_1_code, (1, ((none), ({ frames := 4, cells := 136, slots := 797, locals := 82 } : Room)))))
theorem okK_init : YOK yK_init 0 := ⟨by decide +kernel, mT (i := 17) (by decide +kernel) rfl, ⟨by decide +kernel, by decide +kernel⟩, by decide +kernel, mT (i := 1) (by decide +kernel) rfl⟩
def yText_init : YI := (⟨"KiteYards$Text", "<init>", "()V"⟩, (prog_8_method_1_code, (1, ((none), ({ frames := 1, cells := 1, slots := 32, locals := 20 } : Room)))))
theorem okText_init : YOK yText_init 0 := ⟨by decide +kernel, mT (i := 25) (by decide +kernel) rfl, ⟨by decide +kernel, by decide +kernel⟩, by decide +kernel, mT (i := 2) (by decide +kernel) rfl⟩
def yLine_init : YI := (⟨"KiteYards$Line", "<init>", "()V"⟩, (prog_4_method_1_code, (1, ((none), ({ frames := 1, cells := 3, slots := 15, locals := 20 } : Room)))))
theorem okLine_init : YOK yLine_init 0 := ⟨by decide +kernel, mT (i := 40) (by decide +kernel) rfl, ⟨by decide +kernel, by decide +kernel⟩, by decide +kernel, mT (i := 3) (by decide +kernel) rfl⟩
def yPast_init : YI := (⟨"KiteYards$Past", "<init>", "()V"⟩, (prog_5_method_1_code, (1, ((none), ({ frames := 3, cells := 57, slots := 336, locals := 62 } : Room)))))
theorem okPast_init : YOK yPast_init 0 := ⟨by decide +kernel, mT (i := 95) (by decide +kernel) rfl, ⟨by decide +kernel, by decide +kernel⟩, by decide +kernel, mT (i := 4) (by decide +kernel) rfl⟩
def yK_newLines : YI := (⟨"KiteYards", "newLines", "(I)[LKiteYards$Line;"⟩, (prog_1_method_55_code, (3, ((Option.some (FieldType.array (FieldType.object "KiteYards$Line"))), ({ frames := 2, cells := 57, slots := 336, locals := 40 } : Room)))))
theorem okK_newLines : YOK yK_newLines 1 := ⟨by decide +kernel, mT (i := 99) (by decide +kernel) rfl, ⟨by decide +kernel, by decide +kernel⟩, by decide +kernel, mT (i := 1) (by decide +kernel) rfl⟩
def yMath_max : YI := (⟨"java/lang/Math", "max", "(II)I"⟩, (prog_13_method_65_code, (2, ((Option.some FieldType.int), ({ frames := 0, cells := 0, slots := 0, locals := 0 } : Room)))))
theorem okMath_max : YOK yMath_max 2 := ⟨by decide +kernel, mT (i := 102) (by decide +kernel) rfl, ⟨by decide +kernel, by decide +kernel⟩, by decide +kernel, mT (i := 5) (by decide +kernel) rfl⟩
def ySightings_init : YI := (⟨"KiteYards$Sightings", "<init>", "()V"⟩, (prog_6_method_1_code, (1, ((none), ({ frames := 1, cells := 2, slots := 12, locals := 20 } : Room)))))
theorem okSightings_init : YOK ySightings_init 0 := ⟨by decide +kernel, mT (i := 117) (by decide +kernel) rfl, ⟨by decide +kernel, by decide +kernel⟩, by decide +kernel, mT (i := 6) (by decide +kernel) rfl⟩
def yFlight_init : YI := (⟨"KiteYards$Flight", "<init>", "()V"⟩, (prog_3_method_1_code, (1, ((none), ({ frames := 1, cells := 2, slots := 10, locals := 20 } : Room)))))
theorem okFlight_init : YOK yFlight_init 0 := ⟨by decide +kernel, mT (i := 135) (by decide +kernel) rfl, ⟨by decide +kernel, by decide +kernel⟩, by decide +kernel, mT (i := 7) (by decide +kernel) rfl⟩
def yWay_init : YI := (⟨"KiteYards$Way", "<init>", "()V"⟩, (prog_9_method_1_code, (1, ((none), ({ frames := 1, cells := 1, slots := 5, locals := 20 } : Room)))))
theorem okWay_init : YOK yWay_init 0 := ⟨by decide +kernel, mT (i := 159) (by decide +kernel) rfl, ⟨by decide +kernel, by decide +kernel⟩, by decide +kernel, mT (i := 8) (by decide +kernel) rfl⟩
def yBest_init : YI := (⟨"KiteYards$Best", "<init>", "()V"⟩, (prog_2_method_1_code, (1, ((none), ({ frames := 1, cells := 0, slots := 0, locals := 20 } : Room)))))
theorem okBest_init : YOK yBest_init 0 := ⟨by decide +kernel, mT (i := 176) (by decide +kernel) rfl, ⟨by decide +kernel, by decide +kernel⟩, by decide +kernel, mT (i := 9) (by decide +kernel) rfl⟩
def yTally_init : YI := (⟨"KiteYards$Tally", "<init>", "()V"⟩, (prog_7_method_1_code, (1, ((none), ({ frames := 1, cells := 0, slots := 0, locals := 20 } : Room)))))
theorem okTally_init : YOK yTally_init 0 := ⟨by decide +kernel, mT (i := 191) (by decide +kernel) rfl, ⟨by decide +kernel, by decide +kernel⟩, by decide +kernel, mT (i := 10) (by decide +kernel) rfl⟩
def yK_write : YI := (⟨"KiteYards", "write", "(I)I"⟩, (prog_1_method_2_code, (2, ((Option.some FieldType.int), ({ frames := 2, cells := 0, slots := 0, locals := 43 } : Room)))))
theorem okK_write : YOK yK_write 1 := ⟨by decide +kernel, mT (i := 242) (by decide +kernel) rfl, ⟨by decide +kernel, by decide +kernel⟩, by decide +kernel, mT (i := 1) (by decide +kernel) rfl⟩
def yText_append : YI := (⟨"KiteYards$Text", "append", "(I)I"⟩, (prog_8_method_2_code, (2, ((Option.some FieldType.int), ({ frames := 1, cells := 0, slots := 0, locals := 22 } : Room)))))
theorem okText_append : YOK yText_append 1 := ⟨by decide +kernel, mT (i := 246) (by decide +kernel) rfl, ⟨by decide +kernel, by decide +kernel⟩, by decide +kernel, mT (i := 2) (by decide +kernel) rfl⟩
def yK_put : YI := (⟨"KiteYards", "put", "([III)V"⟩, (prog_1_method_54_code, (3, ((none), ({ frames := 0, cells := 0, slots := 0, locals := 0 } : Room)))))
theorem okK_put : YOK yK_put 3 := ⟨by decide +kernel, mT (i := 249) (by decide +kernel) rfl, ⟨by decide +kernel, by decide +kernel⟩, by decide +kernel, mT (i := 1) (by decide +kernel) rfl⟩
def yK_wipe : YI := (⟨"KiteYards", "wipe", "()I"⟩, (prog_1_method_3_code, (2, ((Option.some FieldType.int), ({ frames := 0, cells := 0, slots := 0, locals := 0 } : Room)))))
theorem okK_wipe : YOK yK_wipe 0 := ⟨by decide +kernel, mT (i := 253) (by decide +kernel) rfl, ⟨by decide +kernel, by decide +kernel⟩, by decide +kernel, mT (i := 1) (by decide +kernel) rfl⟩
def yK_fault : YI := (⟨"KiteYards", "fault", "()I"⟩, (prog_1_method_4_code, (1, ((Option.some FieldType.int), ({ frames := 3, cells := 0, slots := 0, locals := 65 } : Room)))))
theorem okK_fault : YOK yK_fault 0 := ⟨by decide +kernel, mT (i := 257) (by decide +kernel) rfl, ⟨by decide +kernel, by decide +kernel⟩, by decide +kernel, mT (i := 1) (by decide +kernel) rfl⟩
def yText_firstFault : YI := (⟨"KiteYards$Text", "firstFault", "()I"⟩, (prog_8_method_3_code, (2, ((Option.some FieldType.int), ({ frames := 2, cells := 0, slots := 0, locals := 44 } : Room)))))
theorem okText_firstFault : YOK yText_firstFault 0 := ⟨by decide +kernel, mT (i := 261) (by decide +kernel) rfl, ⟨by decide +kernel, by decide +kernel⟩, by decide +kernel, mT (i := 2) (by decide +kernel) rfl⟩
def yK_at : YI := (⟨"KiteYards", "at", "([II)I"⟩, (prog_1_method_53_code, (2, ((Option.some FieldType.int), ({ frames := 0, cells := 0, slots := 0, locals := 0 } : Room)))))
theorem okK_at : YOK yK_at 2 := ⟨by decide +kernel, mT (i := 264) (by decide +kernel) rfl, ⟨by decide +kernel, by decide +kernel⟩, by decide +kernel, mT (i := 1) (by decide +kernel) rfl⟩
def yText_fits : YI := (⟨"KiteYards$Text", "fits", "(II)Z"⟩, (prog_8_method_4_code, (3, ((Option.some FieldType.boolean), ({ frames := 1, cells := 0, slots := 0, locals := 22 } : Room)))))
theorem okText_fits : YOK yText_fits 2 := ⟨by decide +kernel, mT (i := 268) (by decide +kernel) rfl, ⟨by decide +kernel, by decide +kernel⟩, by decide +kernel, mT (i := 2) (by decide +kernel) rfl⟩
def yText_fitsPart : YI := (⟨"KiteYards$Text", "fitsPart", "(II)Z"⟩, (prog_8_method_5_code, (3, ((Option.some FieldType.boolean), ({ frames := 0, cells := 0, slots := 0, locals := 0 } : Room)))))
theorem okText_fitsPart : YOK yText_fitsPart 2 := ⟨by decide +kernel, mT (i := 272) (by decide +kernel) rfl, ⟨by decide +kernel, by decide +kernel⟩, by decide +kernel, mT (i := 2) (by decide +kernel) rfl⟩
def yK_fly : YI := (⟨"KiteYards", "fly", "()I"⟩, (prog_1_method_5_code, (1, ((Option.some FieldType.int), ({ frames := 3, cells := 0, slots := 0, locals := 65 } : Room)))))
theorem okK_fly : YOK yK_fly 0 := ⟨by decide +kernel, mT (i := 276) (by decide +kernel) rfl, ⟨by decide +kernel, by decide +kernel⟩, by decide +kernel, mT (i := 1) (by decide +kernel) rfl⟩
def yText_tell : YI := (⟨"KiteYards$Text", "tell", "(LKiteYards$Line;)V"⟩, (prog_8_method_6_code, (4, ((none), ({ frames := 2, cells := 0, slots := 0, locals := 42 } : Room)))))
theorem okText_tell : YOK yText_tell 1 := ⟨by decide +kernel, mT (i := 280) (by decide +kernel) rfl, ⟨by decide +kernel, by decide +kernel⟩, by decide +kernel, mT (i := 2) (by decide +kernel) rfl⟩
def yText_figure : YI := (⟨"KiteYards$Text", "figure", "(I)I"⟩, (prog_8_method_7_code, (2, ((Option.some FieldType.int), ({ frames := 1, cells := 0, slots := 0, locals := 21 } : Room)))))
theorem okText_figure : YOK yText_figure 1 := ⟨by decide +kernel, mT (i := 284) (by decide +kernel) rfl, ⟨by decide +kernel, by decide +kernel⟩, by decide +kernel, mT (i := 2) (by decide +kernel) rfl⟩
def yMath_min : YI := (⟨"java/lang/Math", "min", "(II)I"⟩, (prog_13_method_69_code, (2, ((Option.some FieldType.int), ({ frames := 0, cells := 0, slots := 0, locals := 0 } : Room)))))
theorem okMath_min : YOK yMath_min 2 := ⟨by decide +kernel, mT (i := 287) (by decide +kernel) rfl, ⟨by decide +kernel, by decide +kernel⟩, by decide +kernel, mT (i := 5) (by decide +kernel) rfl⟩
def yPast_forget : YI := (⟨"KiteYards$Past", "forget", "()V"⟩, (prog_5_method_5_code, (1, ((none), ({ frames := 0, cells := 0, slots := 0, locals := 0 } : Room)))))
theorem okPast_forget : YOK yPast_forget 0 := ⟨by decide +kernel, mT (i := 291) (by decide +kernel) rfl, ⟨by decide +kernel, by decide +kernel⟩, by decide +kernel, mT (i := 4) (by decide +kernel) rfl⟩
def yK_forgetKept : YI := (⟨"KiteYards", "forgetKept", "()V"⟩, (prog_1_method_32_code, (2, ((none), ({ frames := 0, cells := 0, slots := 0, locals := 0 } : Room)))))
theorem okK_forgetKept : YOK yK_forgetKept 0 := ⟨by decide +kernel, mT (i := 295) (by decide +kernel) rfl, ⟨by decide +kernel, by decide +kernel⟩, by decide +kernel, mT (i := 1) (by decide +kernel) rfl⟩
def yK_about : YI := (⟨"KiteYards", "about", "(I)I"⟩, (prog_1_method_6_code, (2, ((Option.some FieldType.int), ({ frames := 2, cells := 0, slots := 0, locals := 49 } : Room)))))
theorem okK_about : YOK yK_about 1 := ⟨by decide +kernel, mT (i := 299) (by decide +kernel) rfl, ⟨by decide +kernel, by decide +kernel⟩, by decide +kernel, mT (i := 1) (by decide +kernel) rfl⟩
def yLine_yardsFrom : YI := (⟨"KiteYards$Line", "yardsFrom", "(I)I"⟩, (prog_4_method_3_code, (4, ((Option.some FieldType.int), ({ frames := 1, cells := 0, slots := 0, locals := 21 } : Room)))))
theorem okLine_yardsFrom : YOK yLine_yardsFrom 1 := ⟨by decide +kernel, mT (i := 303) (by decide +kernel) rfl, ⟨by decide +kernel, by decide +kernel⟩, by decide +kernel, mT (i := 3) (by decide +kernel) rfl⟩
def yFlight_follow : YI := (⟨"KiteYards$Flight", "follow", "(LKiteYards$Line;)V"⟩, (prog_3_method_2_code, (8, ((none), ({ frames := 1, cells := 0, slots := 0, locals := 22 } : Room)))))
theorem okFlight_follow : YOK yFlight_follow 1 := ⟨by decide +kernel, mT (i := 309) (by decide +kernel) rfl, ⟨by decide +kernel, by decide +kernel⟩, by decide +kernel, mT (i := 7) (by decide +kernel) rfl⟩
def yMath_abs : YI := (⟨"java/lang/Math", "abs", "(I)I"⟩, (prog_13_method_59_code, (1, ((Option.some FieldType.int), ({ frames := 0, cells := 0, slots := 0, locals := 0 } : Room)))))
theorem okMath_abs : YOK yMath_abs 1 := ⟨by decide +kernel, mT (i := 314) (by decide +kernel) rfl, ⟨by decide +kernel, by decide +kernel⟩, by decide +kernel, mT (i := 5) (by decide +kernel) rfl⟩
def yK_kite : YI := (⟨"KiteYards", "kite", "(II)I"⟩, (prog_1_method_7_code, (3, ((Option.some FieldType.int), ({ frames := 2, cells := 0, slots := 0, locals := 49 } : Room)))))
theorem okK_kite : YOK yK_kite 2 := ⟨by decide +kernel, mT (i := 319) (by decide +kernel) rfl, ⟨by decide +kernel, by decide +kernel⟩, by decide +kernel, mT (i := 1) (by decide +kernel) rfl⟩
def yLine_has : YI := (⟨"KiteYards$Line", "has", "(I)Z"⟩, (prog_4_method_2_code, (2, ((Option.some FieldType.boolean), ({ frames := 0, cells := 0, slots := 0, locals := 0 } : Room)))))
theorem okLine_has : YOK yLine_has 1 := ⟨by decide +kernel, mT (i := 323) (by decide +kernel) rfl, ⟨by decide +kernel, by decide +kernel⟩, by decide +kernel, mT (i := 3) (by decide +kernel) rfl⟩
def yK_letOut : YI := (⟨"KiteYards", "letOut", "(II)I"⟩, (prog_1_method_8_code, (4, ((Option.some FieldType.int), ({ frames := 4, cells := 0, slots := 0, locals := 88 } : Room)))))
theorem okK_letOut : YOK yK_letOut 2 := ⟨by decide +kernel, mT (i := 328) (by decide +kernel) rfl, ⟨by decide +kernel, by decide +kernel⟩, by decide +kernel, mT (i := 1) (by decide +kernel) rfl⟩
def yK_within : YI := (⟨"KiteYards", "within", "(II)Z"⟩, (prog_1_method_44_code, (2, ((Option.some FieldType.boolean), ({ frames := 0, cells := 0, slots := 0, locals := 0 } : Room)))))
theorem okK_within : YOK yK_within 2 := ⟨by decide +kernel, mT (i := 331) (by decide +kernel) rfl, ⟨by decide +kernel, by decide +kernel⟩, by decide +kernel, mT (i := 1) (by decide +kernel) rfl⟩
def yPast_remember : YI := (⟨"KiteYards$Past", "remember", "(LKiteYards$Line;)V"⟩, (prog_5_method_2_code, (2, ((none), ({ frames := 3, cells := 0, slots := 0, locals := 67 } : Room)))))
theorem okPast_remember : YOK yPast_remember 1 := ⟨by decide +kernel, mT (i := 335) (by decide +kernel) rfl, ⟨by decide +kernel, by decide +kernel⟩, by decide +kernel, mT (i := 4) (by decide +kernel) rfl⟩
def yPast_forgetFirst : YI := (⟨"KiteYards$Past", "forgetFirst", "()V"⟩, (prog_5_method_3_code, (3, ((none), ({ frames := 0, cells := 0, slots := 0, locals := 0 } : Room)))))
theorem okPast_forgetFirst : YOK yPast_forgetFirst 0 := ⟨by decide +kernel, mT (i := 339) (by decide +kernel) rfl, ⟨by decide +kernel, by decide +kernel⟩, by decide +kernel, mT (i := 4) (by decide +kernel) rfl⟩
def yLine_take : YI := (⟨"KiteYards$Line", "take", "(LKiteYards$Line;)V"⟩, (prog_4_method_5_code, (2, ((none), ({ frames := 2, cells := 0, slots := 0, locals := 46 } : Room)))))
theorem okLine_take : YOK yLine_take 1 := ⟨by decide +kernel, mT (i := 343) (by decide +kernel) rfl, ⟨by decide +kernel, by decide +kernel⟩, by decide +kernel, mT (i := 3) (by decide +kernel) rfl⟩
def yLine_takeSome : YI := (⟨"KiteYards$Line", "takeSome", "(LKiteYards$Line;I)V"⟩, (prog_4_method_6_code, (5, ((none), ({ frames := 1, cells := 0, slots := 0, locals := 22 } : Room)))))
theorem okLine_takeSome : YOK yLine_takeSome 2 := ⟨by decide +kernel, mT (i := 347) (by decide +kernel) rfl, ⟨by decide +kernel, by decide +kernel⟩, by decide +kernel, mT (i := 3) (by decide +kernel) rfl⟩
def yK_set : YI := (⟨"KiteYards", "set", "(II)I"⟩, (prog_1_method_9_code, (4, ((Option.some FieldType.int), ({ frames := 4, cells := 0, slots := 0, locals := 88 } : Room)))))
theorem okK_set : YOK yK_set 2 := ⟨by decide +kernel, mT (i := 353) (by decide +kernel) rfl, ⟨by decide +kernel, by decide +kernel⟩, by decide +kernel, mT (i := 1) (by decide +kernel) rfl⟩
def yK_cut : YI := (⟨"KiteYards", "cut", "(I)I"⟩, (prog_1_method_10_code, (2, ((Option.some FieldType.int), ({ frames := 4, cells := 0, slots := 0, locals := 88 } : Room)))))
theorem okK_cut : YOK yK_cut 1 := ⟨by decide +kernel, mT (i := 357) (by decide +kernel) rfl, ⟨by decide +kernel, by decide +kernel⟩, by decide +kernel, mT (i := 1) (by decide +kernel) rfl⟩
def yK_turn : YI := (⟨"KiteYards", "turn", "(II)I"⟩, (prog_1_method_11_code, (4, ((Option.some FieldType.int), ({ frames := 4, cells := 0, slots := 0, locals := 88 } : Room)))))
theorem okK_turn : YOK yK_turn 2 := ⟨by decide +kernel, mT (i := 361) (by decide +kernel) rfl, ⟨by decide +kernel, by decide +kernel⟩, by decide +kernel, mT (i := 1) (by decide +kernel) rfl⟩
def yK_toldTogether : YI := (⟨"KiteYards", "toldTogether", "(II)I"⟩, (prog_1_method_46_code, (2, ((Option.some FieldType.int), ({ frames := 0, cells := 0, slots := 0, locals := 0 } : Room)))))
theorem okK_toldTogether : YOK yK_toldTogether 2 := ⟨by decide +kernel, mT (i := 364) (by decide +kernel) rfl, ⟨by decide +kernel, by decide +kernel⟩, by decide +kernel, mT (i := 1) (by decide +kernel) rfl⟩
def yK_undo : YI := (⟨"KiteYards", "undo", "()I"⟩, (prog_1_method_12_code, (1, ((Option.some FieldType.int), ({ frames := 4, cells := 0, slots := 0, locals := 89 } : Room)))))
theorem okK_undo : YOK yK_undo 0 := ⟨by decide +kernel, mT (i := 368) (by decide +kernel) rfl, ⟨by decide +kernel, by decide +kernel⟩, by decide +kernel, mT (i := 1) (by decide +kernel) rfl⟩
def yPast_giveBack : YI := (⟨"KiteYards$Past", "giveBack", "(LKiteYards$Line;)V"⟩, (prog_5_method_4_code, (3, ((none), ({ frames := 3, cells := 0, slots := 0, locals := 67 } : Room)))))
theorem okPast_giveBack : YOK yPast_giveBack 1 := ⟨by decide +kernel, mT (i := 372) (by decide +kernel) rfl, ⟨by decide +kernel, by decide +kernel⟩, by decide +kernel, mT (i := 4) (by decide +kernel) rfl⟩
def yK_sees : YI := (⟨"KiteYards", "sees", "(I)I"⟩, (prog_1_method_13_code, (2, ((Option.some FieldType.int), ({ frames := 3, cells := 0, slots := 0, locals := 62 } : Room)))))
theorem okK_sees : YOK yK_sees 1 := ⟨by decide +kernel, mT (i := 376) (by decide +kernel) rfl, ⟨by decide +kernel, by decide +kernel⟩, by decide +kernel, mT (i := 1) (by decide +kernel) rfl⟩
def yFlight_views : YI := (⟨"KiteYards$Flight", "views", "(I)Z"⟩, (prog_3_method_3_code, (2, ((Option.some FieldType.boolean), ({ frames := 2, cells := 0, slots := 0, locals := 41 } : Room)))))
theorem okFlight_views : YOK yFlight_views 1 := ⟨by decide +kernel, mT (i := 380) (by decide +kernel) rfl, ⟨by decide +kernel, by decide +kernel⟩, by decide +kernel, mT (i := 7) (by decide +kernel) rfl⟩
def yFlight_sight : YI := (⟨"KiteYards$Flight", "sight", "()I"⟩, (prog_3_method_5_code, (1, ((Option.some FieldType.int), ({ frames := 1, cells := 0, slots := 0, locals := 21 } : Room)))))
theorem okFlight_sight : YOK yFlight_sight 0 := ⟨by decide +kernel, mT (i := 384) (by decide +kernel) rfl, ⟨by decide +kernel, by decide +kernel⟩, by decide +kernel, mT (i := 7) (by decide +kernel) rfl⟩
def yK_cheapest : YI := (⟨"KiteYards", "cheapest", "(II)I"⟩, (prog_1_method_14_code, (3, ((Option.some FieldType.int), ({ frames := 5, cells := 0, slots := 0, locals := 107 } : Room)))))
theorem okK_cheapest : YOK yK_cheapest 2 := ⟨by decide +kernel, mT (i := 388) (by decide +kernel) rfl, ⟨by decide +kernel, by decide +kernel⟩, by decide +kernel, mT (i := 1) (by decide +kernel) rfl⟩
def yK_isFirstOrSecond : YI := (⟨"KiteYards", "isFirstOrSecond", "(I)Z"⟩, (prog_1_method_45_code, (1, ((Option.some FieldType.boolean), ({ frames := 0, cells := 0, slots := 0, locals := 0 } : Room)))))
theorem okK_isFirstOrSecond : YOK yK_isFirstOrSecond 1 := ⟨by decide +kernel, mT (i := 391) (by decide +kernel) rfl, ⟨by decide +kernel, by decide +kernel⟩, by decide +kernel, mT (i := 1) (by decide +kernel) rfl⟩
def yK_seekYards : YI := (⟨"KiteYards", "seekYards", "(I)V"⟩, (prog_1_method_33_code, (5, ((none), ({ frames := 4, cells := 0, slots := 0, locals := 83 } : Room)))))
theorem okK_seekYards : YOK yK_seekYards 1 := ⟨by decide +kernel, mT (i := 395) (by decide +kernel) rfl, ⟨by decide +kernel, by decide +kernel⟩, by decide +kernel, mT (i := 1) (by decide +kernel) rfl⟩
def yBest_clear : YI := (⟨"KiteYards$Best", "clear", "()V"⟩, (prog_2_method_2_code, (1, ((none), ({ frames := 0, cells := 0, slots := 0, locals := 0 } : Room)))))
theorem okBest_clear : YOK yBest_clear 0 := ⟨by decide +kernel, mT (i := 399) (by decide +kernel) rfl, ⟨by decide +kernel, by decide +kernel⟩, by decide +kernel, mT (i := 9) (by decide +kernel) rfl⟩
def yWay_start : YI := (⟨"KiteYards$Way", "start", "(II)V"⟩, (prog_9_method_2_code, (4, ((none), ({ frames := 0, cells := 0, slots := 0, locals := 0 } : Room)))))
theorem okWay_start : YOK yWay_start 2 := ⟨by decide +kernel, mT (i := 404) (by decide +kernel) rfl, ⟨by decide +kernel, by decide +kernel⟩, by decide +kernel, mT (i := 8) (by decide +kernel) rfl⟩
def yWay_most : YI := (⟨"KiteYards$Way", "most", "()I"⟩, (prog_9_method_3_code, (3, ((Option.some FieldType.int), ({ frames := 0, cells := 0, slots := 0, locals := 0 } : Room)))))
theorem okWay_most : YOK yWay_most 0 := ⟨by decide +kernel, mT (i := 408) (by decide +kernel) rfl, ⟨by decide +kernel, by decide +kernel⟩, by decide +kernel, mT (i := 8) (by decide +kernel) rfl⟩
def yWay_sum : YI := (⟨"KiteYards$Way", "sum", "()I"⟩, (prog_9_method_5_code, (3, ((Option.some FieldType.int), ({ frames := 1, cells := 0, slots := 0, locals := 21 } : Room)))))
theorem okWay_sum : YOK yWay_sum 0 := ⟨by decide +kernel, mT (i := 412) (by decide +kernel) rfl, ⟨by decide +kernel, by decide +kernel⟩, by decide +kernel, mT (i := 8) (by decide +kernel) rfl⟩
def yBest_wants : YI := (⟨"KiteYards$Best", "wants", "(I)Z"⟩, (prog_2_method_3_code, (2, ((Option.some FieldType.boolean), ({ frames := 0, cells := 0, slots := 0, locals := 0 } : Room)))))
theorem okBest_wants : YOK yBest_wants 1 := ⟨by decide +kernel, mT (i := 417) (by decide +kernel) rfl, ⟨by decide +kernel, by decide +kernel⟩, by decide +kernel, mT (i := 9) (by decide +kernel) rfl⟩
def yK_letOutByWay : YI := (⟨"KiteYards", "letOutByWay", "()Z"⟩, (prog_1_method_34_code, (3, ((Option.some FieldType.boolean), ({ frames := 1, cells := 0, slots := 0, locals := 22 } : Room)))))
theorem okK_letOutByWay : YOK yK_letOutByWay 0 := ⟨by decide +kernel, mT (i := 421) (by decide +kernel) rfl, ⟨by decide +kernel, by decide +kernel⟩, by decide +kernel, mT (i := 1) (by decide +kernel) rfl⟩
def yK_trialViews : YI := (⟨"KiteYards", "trialViews", "(I)Z"⟩, (prog_1_method_37_code, (2, ((Option.some FieldType.boolean), ({ frames := 3, cells := 0, slots := 0, locals := 62 } : Room)))))
theorem okK_trialViews : YOK yK_trialViews 1 := ⟨by decide +kernel, mT (i := 425) (by decide +kernel) rfl, ⟨by decide +kernel, by decide +kernel⟩, by decide +kernel, mT (i := 1) (by decide +kernel) rfl⟩
def yWay_number : YI := (⟨"KiteYards$Way", "number", "()I"⟩, (prog_9_method_6_code, (3, ((Option.some FieldType.int), ({ frames := 1, cells := 0, slots := 0, locals := 21 } : Room)))))
theorem okWay_number : YOK yWay_number 0 := ⟨by decide +kernel, mT (i := 429) (by decide +kernel) rfl, ⟨by decide +kernel, by decide +kernel⟩, by decide +kernel, mT (i := 8) (by decide +kernel) rfl⟩
def yBest_keepThis : YI := (⟨"KiteYards$Best", "keepThis", "(II)V"⟩, (prog_2_method_4_code, (3, ((none), ({ frames := 0, cells := 0, slots := 0, locals := 0 } : Room)))))
theorem okBest_keepThis : YOK yBest_keepThis 2 := ⟨by decide +kernel, mT (i := 433) (by decide +kernel) rfl, ⟨by decide +kernel, by decide +kernel⟩, by decide +kernel, mT (i := 9) (by decide +kernel) rfl⟩
def yWay_step : YI := (⟨"KiteYards$Way", "step", "()V"⟩, (prog_9_method_4_code, (2, ((none), ({ frames := 1, cells := 0, slots := 0, locals := 22 } : Room)))))
theorem okWay_step : YOK yWay_step 0 := ⟨by decide +kernel, mT (i := 437) (by decide +kernel) rfl, ⟨by decide +kernel, by decide +kernel⟩, by decide +kernel, mT (i := 8) (by decide +kernel) rfl⟩
def yK_fewest : YI := (⟨"KiteYards", "fewest", "(II)I"⟩, (prog_1_method_15_code, (3, ((Option.some FieldType.int), ({ frames := 5, cells := 0, slots := 0, locals := 107 } : Room)))))
theorem okK_fewest : YOK yK_fewest 2 := ⟨by decide +kernel, mT (i := 442) (by decide +kernel) rfl, ⟨by decide +kernel, by decide +kernel⟩, by decide +kernel, mT (i := 1) (by decide +kernel) rfl⟩
def yK_seekBridles : YI := (⟨"KiteYards", "seekBridles", "(I)V"⟩, (prog_1_method_35_code, (5, ((none), ({ frames := 4, cells := 0, slots := 0, locals := 83 } : Room)))))
theorem okK_seekBridles : YOK yK_seekBridles 1 := ⟨by decide +kernel, mT (i := 446) (by decide +kernel) rfl, ⟨by decide +kernel, by decide +kernel⟩, by decide +kernel, mT (i := 1) (by decide +kernel) rfl⟩
def yK_setByWay : YI := (⟨"KiteYards", "setByWay", "()I"⟩, (prog_1_method_36_code, (4, ((Option.some FieldType.int), ({ frames := 1, cells := 0, slots := 0, locals := 22 } : Room)))))
theorem okK_setByWay : YOK yK_setByWay 0 := ⟨by decide +kernel, mT (i := 450) (by decide +kernel) rfl, ⟨by decide +kernel, by decide +kernel⟩, by decide +kernel, mT (i := 1) (by decide +kernel) rfl⟩
def yK_whereToCut : YI := (⟨"KiteYards", "whereToCut", "()I"⟩, (prog_1_method_16_code, (3, ((Option.some FieldType.int), ({ frames := 2, cells := 0, slots := 0, locals := 49 } : Room)))))
theorem okK_whereToCut : YOK yK_whereToCut 0 := ⟨by decide +kernel, mT (i := 454) (by decide +kernel) rfl, ⟨by decide +kernel, by decide +kernel⟩, by decide +kernel, mT (i := 1) (by decide +kernel) rfl⟩
def yK_drops : YI := (⟨"KiteYards", "drops", "(I)I"⟩, (prog_1_method_17_code, (2, ((Option.some FieldType.int), ({ frames := 2, cells := 0, slots := 0, locals := 44 } : Room)))))
theorem okK_drops : YOK yK_drops 1 := ⟨by decide +kernel, mT (i := 458) (by decide +kernel) rfl, ⟨by decide +kernel, by decide +kernel⟩, by decide +kernel, mT (i := 1) (by decide +kernel) rfl⟩
def yK_share : YI := (⟨"KiteYards", "share", "(IZ)I"⟩, (prog_1_method_18_code, (9, ((Option.some FieldType.int), ({ frames := 4, cells := 0, slots := 0, locals := 85 } : Room)))))
theorem okK_share : YOK yK_share 2 := ⟨by decide +kernel, mT (i := 462) (by decide +kernel) rfl, ⟨by decide +kernel, by decide +kernel⟩, by decide +kernel, mT (i := 1) (by decide +kernel) rfl⟩
def yInt_bitCount : YI := (⟨"java/lang/Integer", "bitCount", "(I)I"⟩, (prog_12_method_49_code, (1, ((Option.some FieldType.int), ({ frames := 0, cells := 0, slots := 0, locals := 0 } : Room)))))
theorem okInt_bitCount : YOK yInt_bitCount 1 := ⟨by decide +kernel, mT (i := 465) (by decide +kernel) rfl, ⟨by decide +kernel, by decide +kernel⟩, by decide +kernel, mT (i := 12) (by decide +kernel) rfl⟩
def yK_orders : YI := (⟨"KiteYards", "orders", "(I)I"⟩, (prog_1_method_50_code, (3, ((Option.some FieldType.int), ({ frames := 0, cells := 0, slots := 0, locals := 0 } : Room)))))
theorem okK_orders : YOK yK_orders 1 := ⟨by decide +kernel, mT (i := 471) (by decide +kernel) rfl, ⟨by decide +kernel, by decide +kernel⟩, by decide +kernel, mT (i := 1) (by decide +kernel) rfl⟩
def yK_viewOf : YI := (⟨"KiteYards", "viewOf", "(I)I"⟩, (prog_1_method_38_code, (2, ((Option.some FieldType.int), ({ frames := 3, cells := 0, slots := 0, locals := 64 } : Room)))))
theorem okK_viewOf : YOK yK_viewOf 1 := ⟨by decide +kernel, mT (i := 475) (by decide +kernel) rfl, ⟨by decide +kernel, by decide +kernel⟩, by decide +kernel, mT (i := 1) (by decide +kernel) rfl⟩
def yFlight_viewsWithin : YI := (⟨"KiteYards$Flight", "viewsWithin", "(I)I"⟩, (prog_3_method_4_code, (4, ((Option.some FieldType.int), ({ frames := 2, cells := 0, slots := 0, locals := 41 } : Room)))))
theorem okFlight_viewsWithin : YOK yFlight_viewsWithin 1 := ⟨by decide +kernel, mT (i := 480) (by decide +kernel) rfl, ⟨by decide +kernel, by decide +kernel⟩, by decide +kernel, mT (i := 7) (by decide +kernel) rfl⟩
def yK_fraction : YI := (⟨"KiteYards", "fraction", "(IIZ)I"⟩, (prog_1_method_51_code, (4, ((Option.some FieldType.int), ({ frames := 1, cells := 0, slots := 0, locals := 25 } : Room)))))
theorem okK_fraction : YOK yK_fraction 3 := ⟨by decide +kernel, mT (i := 484) (by decide +kernel) rfl, ⟨by decide +kernel, by decide +kernel⟩, by decide +kernel, mT (i := 1) (by decide +kernel) rfl⟩
def yK_commonDivisor : YI := (⟨"KiteYards", "commonDivisor", "(II)I"⟩, (prog_1_method_52_code, (6, ((Option.some FieldType.int), ({ frames := 0, cells := 0, slots := 0, locals := 0 } : Room)))))
theorem okK_commonDivisor : YOK yK_commonDivisor 2 := ⟨by decide +kernel, mT (i := 488) (by decide +kernel) rfl, ⟨by decide +kernel, by decide +kernel⟩, by decide +kernel, mT (i := 1) (by decide +kernel) rfl⟩
def yK_arrives : YI := (⟨"KiteYards", "arrives", "(II)I"⟩, (prog_1_method_19_code, (3, ((Option.some FieldType.int), ({ frames := 2, cells := 0, slots := 0, locals := 48 } : Room)))))
theorem okK_arrives : YOK yK_arrives 2 := ⟨by decide +kernel, mT (i := 492) (by decide +kernel) rfl, ⟨by decide +kernel, by decide +kernel⟩, by decide +kernel, mT (i := 1) (by decide +kernel) rfl⟩
def yK_isWord : YI := (⟨"KiteYards", "isWord", "(II)Z"⟩, (prog_1_method_47_code, (4, ((Option.some FieldType.boolean), ({ frames := 0, cells := 0, slots := 0, locals := 0 } : Room)))))
theorem okK_isWord : YOK yK_isWord 2 := ⟨by decide +kernel, mT (i := 495) (by decide +kernel) rfl, ⟨by decide +kernel, by decide +kernel⟩, by decide +kernel, mT (i := 1) (by decide +kernel) rfl⟩
def yLine_tugsMore : YI := (⟨"KiteYards$Line", "tugsMore", "()I"⟩, (prog_4_method_4_code, (3, ((Option.some FieldType.int), ({ frames := 1, cells := 0, slots := 0, locals := 21 } : Room)))))
theorem okLine_tugsMore : YOK yLine_tugsMore 0 := ⟨by decide +kernel, mT (i := 499) (by decide +kernel) rfl, ⟨by decide +kernel, by decide +kernel⟩, by decide +kernel, mT (i := 3) (by decide +kernel) rfl⟩
def yK_shifted : YI := (⟨"KiteYards", "shifted", "(III)I"⟩, (prog_1_method_48_code, (7, ((Option.some FieldType.int), ({ frames := 1, cells := 0, slots := 0, locals := 22 } : Room)))))
theorem okK_shifted : YOK yK_shifted 3 := ⟨by decide +kernel, mT (i := 502) (by decide +kernel) rfl, ⟨by decide +kernel, by decide +kernel⟩, by decide +kernel, mT (i := 1) (by decide +kernel) rfl⟩
def yMath_floorMod : YI := (⟨"java/lang/Math", "floorMod", "(II)I"⟩, (prog_13_method_50_code, (3, ((Option.some FieldType.int), ({ frames := 0, cells := 0, slots := 0, locals := 0 } : Room)))))
theorem okMath_floorMod : YOK yMath_floorMod 2 := ⟨by decide +kernel, mT (i := 505) (by decide +kernel) rfl, ⟨by decide +kernel, by decide +kernel⟩, by decide +kernel, mT (i := 5) (by decide +kernel) rfl⟩
def yK_sent : YI := (⟨"KiteYards", "sent", "(II)I"⟩, (prog_1_method_20_code, (3, ((Option.some FieldType.int), ({ frames := 2, cells := 0, slots := 0, locals := 48 } : Room)))))
theorem okK_sent : YOK yK_sent 2 := ⟨by decide +kernel, mT (i := 509) (by decide +kernel) rfl, ⟨by decide +kernel, by decide +kernel⟩, by decide +kernel, mT (i := 1) (by decide +kernel) rfl⟩
def yK_taken : YI := (⟨"KiteYards", "taken", "(III)I"⟩, (prog_1_method_21_code, (4, ((Option.some FieldType.int), ({ frames := 2, cells := 0, slots := 0, locals := 50 } : Room)))))
theorem okK_taken : YOK yK_taken 3 := ⟨by decide +kernel, mT (i := 513) (by decide +kernel) rfl, ⟨by decide +kernel, by decide +kernel⟩, by decide +kernel, mT (i := 1) (by decide +kernel) rfl⟩
def yK_meetBySlips : YI := (⟨"KiteYards", "meetBySlips", "(III)Z"⟩, (prog_1_method_49_code, (9, ((Option.some FieldType.boolean), ({ frames := 1, cells := 0, slots := 0, locals := 22 } : Room)))))
theorem okK_meetBySlips : YOK yK_meetBySlips 3 := ⟨by decide +kernel, mT (i := 516) (by decide +kernel) rfl, ⟨by decide +kernel, by decide +kernel⟩, by decide +kernel, mT (i := 1) (by decide +kernel) rfl⟩
def yK_seeAt : YI := (⟨"KiteYards", "seeAt", "(II)I"⟩, (prog_1_method_22_code, (3, ((Option.some FieldType.int), ({ frames := 2, cells := 0, slots := 0, locals := 44 } : Room)))))
theorem okK_seeAt : YOK yK_seeAt 2 := ⟨by decide +kernel, mT (i := 520) (by decide +kernel) rfl, ⟨by decide +kernel, by decide +kernel⟩, by decide +kernel, mT (i := 1) (by decide +kernel) rfl⟩
def ySightings_add : YI := (⟨"KiteYards$Sightings", "add", "(II)I"⟩, (prog_6_method_2_code, (3, ((Option.some FieldType.int), ({ frames := 1, cells := 0, slots := 0, locals := 22 } : Room)))))
theorem okSightings_add : YOK ySightings_add 2 := ⟨by decide +kernel, mT (i := 524) (by decide +kernel) rfl, ⟨by decide +kernel, by decide +kernel⟩, by decide +kernel, mT (i := 6) (by decide +kernel) rfl⟩
def yK_unsee : YI := (⟨"KiteYards", "unsee", "()I"⟩, (prog_1_method_23_code, (2, ((Option.some FieldType.int), ({ frames := 0, cells := 0, slots := 0, locals := 0 } : Room)))))
theorem okK_unsee : YOK yK_unsee 0 := ⟨by decide +kernel, mT (i := 529) (by decide +kernel) rfl, ⟨by decide +kernel, by decide +kernel⟩, by decide +kernel, mT (i := 1) (by decide +kernel) rfl⟩
def yK_winds : YI := (⟨"KiteYards", "winds", "(I)I"⟩, (prog_1_method_24_code, (3, ((Option.some FieldType.int), ({ frames := 4, cells := 0, slots := 0, locals := 90 } : Room)))))
theorem okK_winds : YOK yK_winds 1 := ⟨by decide +kernel, mT (i := 533) (by decide +kernel) rfl, ⟨by decide +kernel, by decide +kernel⟩, by decide +kernel, mT (i := 1) (by decide +kernel) rfl⟩
def yK_seekWinds : YI := (⟨"KiteYards", "seekWinds", "()I"⟩, (prog_1_method_39_code, (4, ((Option.some FieldType.int), ({ frames := 3, cells := 0, slots := 0, locals := 67 } : Room)))))
theorem okK_seekWinds : YOK yK_seekWinds 0 := ⟨by decide +kernel, mT (i := 537) (by decide +kernel) rfl, ⟨by decide +kernel, by decide +kernel⟩, by decide +kernel, mT (i := 1) (by decide +kernel) rfl⟩
def yTally_clear : YI := (⟨"KiteYards$Tally", "clear", "()V"⟩, (prog_7_method_2_code, (1, ((none), ({ frames := 0, cells := 0, slots := 0, locals := 0 } : Room)))))
theorem okTally_clear : YOK yTally_clear 0 := ⟨by decide +kernel, mT (i := 541) (by decide +kernel) rfl, ⟨by decide +kernel, by decide +kernel⟩, by decide +kernel, mT (i := 10) (by decide +kernel) rfl⟩
def ySightings_agreeWith : YI := (⟨"KiteYards$Sightings", "agreeWith", "(LKiteYards$Flight;)Z"⟩, (prog_6_method_3_code, (4, ((Option.some FieldType.boolean), ({ frames := 1, cells := 0, slots := 0, locals := 21 } : Room)))))
theorem okSightings_agreeWith : YOK ySightings_agreeWith 1 := ⟨by decide +kernel, mT (i := 545) (by decide +kernel) rfl, ⟨by decide +kernel, by decide +kernel⟩, by decide +kernel, mT (i := 6) (by decide +kernel) rfl⟩
def yTally_add : YI := (⟨"KiteYards$Tally", "add", "(I)V"⟩, (prog_7_method_3_code, (2, ((none), ({ frames := 0, cells := 0, slots := 0, locals := 0 } : Room)))))
theorem okTally_add : YOK yTally_add 1 := ⟨by decide +kernel, mT (i := 550) (by decide +kernel) rfl, ⟨by decide +kernel, by decide +kernel⟩, by decide +kernel, mT (i := 10) (by decide +kernel) rfl⟩
def yK_rests : YI := (⟨"KiteYards", "rests", "(IIIII)I"⟩, (prog_1_method_25_code, (7, ((Option.some FieldType.int), ({ frames := 5, cells := 0, slots := 0, locals := 124 } : Room)))))
theorem okK_rests : YOK yK_rests 5 := ⟨by decide +kernel, mT (i := 554) (by decide +kernel) rfl, ⟨by decide +kernel, by decide +kernel⟩, by decide +kernel, mT (i := 1) (by decide +kernel) rfl⟩
def yK_seekRests : YI := (⟨"KiteYards", "seekRests", "(IIII)V"⟩, (prog_1_method_40_code, (7, ((none), ({ frames := 4, cells := 0, slots := 0, locals := 98 } : Room)))))
theorem okK_seekRests : YOK yK_seekRests 4 := ⟨by decide +kernel, mT (i := 558) (by decide +kernel) rfl, ⟨by decide +kernel, by decide +kernel⟩, by decide +kernel, mT (i := 1) (by decide +kernel) rfl⟩
def yK_isNearest : YI := (⟨"KiteYards", "isNearest", "(II)Z"⟩, (prog_1_method_41_code, (7, ((Option.some FieldType.boolean), ({ frames := 3, cells := 0, slots := 0, locals := 72 } : Room)))))
theorem okK_isNearest : YOK yK_isNearest 2 := ⟨by decide +kernel, mT (i := 562) (by decide +kernel) rfl, ⟨by decide +kernel, by decide +kernel⟩, by decide +kernel, mT (i := 1) (by decide +kernel) rfl⟩
def yK_distanceBy : YI := (⟨"KiteYards", "distanceBy", "(III)I"⟩, (prog_1_method_42_code, (4, ((Option.some FieldType.int), ({ frames := 2, cells := 0, slots := 0, locals := 49 } : Room)))))
theorem okK_distanceBy : YOK yK_distanceBy 3 := ⟨by decide +kernel, mT (i := 566) (by decide +kernel) rfl, ⟨by decide +kernel, by decide +kernel⟩, by decide +kernel, mT (i := 1) (by decide +kernel) rfl⟩
def yK_gusts : YI := (⟨"KiteYards", "gusts", "(IIZ)I"⟩, (prog_1_method_26_code, (5, ((Option.some FieldType.int), ({ frames := 4, cells := 0, slots := 0, locals := 89 } : Room)))))
theorem okK_gusts : YOK yK_gusts 3 := ⟨by decide +kernel, mT (i := 570) (by decide +kernel) rfl, ⟨by decide +kernel, by decide +kernel⟩, by decide +kernel, mT (i := 1) (by decide +kernel) rfl⟩
def yK_calmIn : YI := (⟨"KiteYards", "calmIn", "(II)I"⟩, (prog_1_method_43_code, (3, ((Option.some FieldType.int), ({ frames := 3, cells := 0, slots := 0, locals := 67 } : Room)))))
theorem okK_calmIn : YOK yK_calmIn 2 := ⟨by decide +kernel, mT (i := 574) (by decide +kernel) rfl, ⟨by decide +kernel, by decide +kernel⟩, by decide +kernel, mT (i := 1) (by decide +kernel) rfl⟩
def yK_seed : YI := (⟨"KiteYards", "seed", "(J)J"⟩, (prog_1_method_27_code, (5, ((Option.some FieldType.long), ({ frames := 0, cells := 0, slots := 0, locals := 0 } : Room)))))
theorem okK_seed : YOK yK_seed 1 := ⟨by decide +kernel, mT (i := 578) (by decide +kernel) rfl, ⟨by decide +kernel, by decide +kernel⟩, by decide +kernel, mT (i := 1) (by decide +kernel) rfl⟩
def yK_afternoons : YI := (⟨"KiteYards", "afternoons", "(I)I"⟩, (prog_1_method_28_code, (5, ((Option.some FieldType.int), ({ frames := 3, cells := 0, slots := 0, locals := 67 } : Room)))))
theorem okK_afternoons : YOK yK_afternoons 1 := ⟨by decide +kernel, mT (i := 582) (by decide +kernel) rfl, ⟨by decide +kernel, by decide +kernel⟩, by decide +kernel, mT (i := 1) (by decide +kernel) rfl⟩
def yK_keep : YI := (⟨"KiteYards", "keep", "(I)I"⟩, (prog_1_method_29_code, (3, ((Option.some FieldType.int), ({ frames := 3, cells := 0, slots := 0, locals := 67 } : Room)))))
theorem okK_keep : YOK yK_keep 1 := ⟨by decide +kernel, mT (i := 589) (by decide +kernel) rfl, ⟨by decide +kernel, by decide +kernel⟩, by decide +kernel, mT (i := 1) (by decide +kernel) rfl⟩
def yK_slotLine : YI := (⟨"KiteYards", "slotLine", "(I)LKiteYards$Line;"⟩, (prog_1_method_31_code, (2, ((Option.some (FieldType.object "KiteYards$Line")), ({ frames := 0, cells := 0, slots := 0, locals := 0 } : Room)))))
theorem okK_slotLine : YOK yK_slotLine 1 := ⟨by decide +kernel, mT (i := 593) (by decide +kernel) rfl, ⟨by decide +kernel, by decide +kernel⟩, by decide +kernel, mT (i := 1) (by decide +kernel) rfl⟩
def yK_again : YI := (⟨"KiteYards", "again", "(I)I"⟩, (prog_1_method_30_code, (3, ((Option.some FieldType.int), ({ frames := 3, cells := 0, slots := 0, locals := 67 } : Room)))))
theorem okK_again : YOK yK_again 1 := ⟨by decide +kernel, mT (i := 597) (by decide +kernel) rfl, ⟨by decide +kernel, by decide +kernel⟩, by decide +kernel, mT (i := 1) (by decide +kernel) rfl⟩
def yM_init : YI := (⟨"KiteYardsModel", "<init>", "()V"⟩, (prog_11_method_1_code, (1, ((none), ({ frames := 1, cells := 17, slots := 352, locals := 20 } : Room)))))
theorem okM_init : YOK yM_init 0 := ⟨by decide +kernel, mT (i := 602) (by decide +kernel) rfl, ⟨by decide +kernel, by decide +kernel⟩, by decide +kernel, mT (i := 11) (by decide +kernel) rfl⟩
def yM_write : YI := (⟨"KiteYardsModel", "write", "(I)I"⟩, (prog_11_method_8_code, (2, ((Option.some FieldType.int), ({ frames := 1, cells := 0, slots := 0, locals := 25 } : Room)))))
theorem okM_write : YOK yM_write 1 := ⟨by decide +kernel, mT (i := 722) (by decide +kernel) rfl, ⟨by decide +kernel, by decide +kernel⟩, by decide +kernel, mT (i := 11) (by decide +kernel) rfl⟩
def yM_in : YI := (⟨"KiteYardsModel", "in", "(JJJ)Z"⟩, (prog_11_method_3_code, (6, ((Option.some FieldType.boolean), ({ frames := 0, cells := 0, slots := 0, locals := 0 } : Room)))))
theorem okM_in : YOK yM_in 3 := ⟨by decide +kernel, mT (i := 726) (by decide +kernel) rfl, ⟨by decide +kernel, by decide +kernel⟩, by decide +kernel, mT (i := 11) (by decide +kernel) rfl⟩
def yM_wipe : YI := (⟨"KiteYardsModel", "wipe", "()I"⟩, (prog_11_method_9_code, (2, ((Option.some FieldType.int), ({ frames := 0, cells := 0, slots := 0, locals := 0 } : Room)))))
theorem okM_wipe : YOK yM_wipe 0 := ⟨by decide +kernel, mT (i := 730) (by decide +kernel) rfl, ⟨by decide +kernel, by decide +kernel⟩, by decide +kernel, mT (i := 11) (by decide +kernel) rfl⟩
def yM_fault : YI := (⟨"KiteYardsModel", "fault", "()I"⟩, (prog_11_method_13_code, (1, ((Option.some FieldType.int), ({ frames := 4, cells := 0, slots := 0, locals := 95 } : Room)))))
theorem okM_fault : YOK yM_fault 0 := ⟨by decide +kernel, mT (i := 734) (by decide +kernel) rfl, ⟨by decide +kernel, by decide +kernel⟩, by decide +kernel, mT (i := 11) (by decide +kernel) rfl⟩
def yM_readString : YI := (⟨"KiteYardsModel", "readString", "()I"⟩, (prog_11_method_12_code, (4, ((Option.some FieldType.int), ({ frames := 3, cells := 0, slots := 0, locals := 72 } : Room)))))
theorem okM_readString : YOK yM_readString 0 := ⟨by decide +kernel, mT (i := 738) (by decide +kernel) rfl, ⟨by decide +kernel, by decide +kernel⟩, by decide +kernel, mT (i := 11) (by decide +kernel) rfl⟩
def yM_readHead : YI := (⟨"KiteYardsModel", "readHead", "()Z"⟩, (prog_11_method_11_code, (6, ((Option.some FieldType.boolean), ({ frames := 2, cells := 0, slots := 0, locals := 47 } : Room)))))
theorem okM_readHead : YOK yM_readHead 0 := ⟨by decide +kernel, mT (i := 742) (by decide +kernel) rfl, ⟨by decide +kernel, by decide +kernel⟩, by decide +kernel, mT (i := 11) (by decide +kernel) rfl⟩
def yM_figure : YI := (⟨"KiteYardsModel", "figure", "(II)I"⟩, (prog_11_method_10_code, (3, ((Option.some FieldType.int), ({ frames := 1, cells := 0, slots := 0, locals := 25 } : Room)))))
theorem okM_figure : YOK yM_figure 2 := ⟨by decide +kernel, mT (i := 746) (by decide +kernel) rfl, ⟨by decide +kernel, by decide +kernel⟩, by decide +kernel, mT (i := 11) (by decide +kernel) rfl⟩
def yM_fly : YI := (⟨"KiteYardsModel", "fly", "()I"⟩, (prog_11_method_14_code, (2, ((Option.some FieldType.int), ({ frames := 4, cells := 0, slots := 0, locals := 95 } : Room)))))
theorem okM_fly : YOK yM_fly 0 := ⟨by decide +kernel, mT (i := 750) (by decide +kernel) rfl, ⟨by decide +kernel, by decide +kernel⟩, by decide +kernel, mT (i := 11) (by decide +kernel) rfl⟩
def yM_about : YI := (⟨"KiteYardsModel", "about", "(I)I"⟩, (prog_11_method_18_code, (2, ((Option.some FieldType.int), ({ frames := 3, cells := 0, slots := 0, locals := 68 } : Room)))))
theorem okM_about : YOK yM_about 1 := ⟨by decide +kernel, mT (i := 754) (by decide +kernel) rfl, ⟨by decide +kernel, by decide +kernel⟩, by decide +kernel, mT (i := 11) (by decide +kernel) rfl⟩
def yM_layPage : YI := (⟨"KiteYardsModel", "layPage", "()V"⟩, (prog_11_method_16_code, (1, ((none), ({ frames := 2, cells := 0, slots := 0, locals := 48 } : Room)))))
theorem okM_layPage : YOK yM_layPage 0 := ⟨by decide +kernel, mT (i := 758) (by decide +kernel) rfl, ⟨by decide +kernel, by decide +kernel⟩, by decide +kernel, mT (i := 11) (by decide +kernel) rfl⟩
def yM_lay : YI := (⟨"KiteYardsModel", "lay", "([I[I)V"⟩, (prog_11_method_15_code, (8, ((none), ({ frames := 1, cells := 0, slots := 0, locals := 21 } : Room)))))
theorem okM_lay : YOK yM_lay 2 := ⟨by decide +kernel, mT (i := 762) (by decide +kernel) rfl, ⟨by decide +kernel, by decide +kernel⟩, by decide +kernel, mT (i := 11) (by decide +kernel) rfl⟩
def yM_far : YI := (⟨"KiteYardsModel", "far", "(II)I"⟩, (prog_11_method_6_code, (2, ((Option.some FieldType.int), ({ frames := 0, cells := 0, slots := 0, locals := 0 } : Room)))))
theorem okM_far : YOK yM_far 2 := ⟨by decide +kernel, mT (i := 765) (by decide +kernel) rfl, ⟨by decide +kernel, by decide +kernel⟩, by decide +kernel, mT (i := 11) (by decide +kernel) rfl⟩
def yM_yardsFrom : YI := (⟨"KiteYardsModel", "yardsFrom", "(I)I"⟩, (prog_11_method_19_code, (4, ((Option.some FieldType.int), ({ frames := 0, cells := 0, slots := 0, locals := 0 } : Room)))))
theorem okM_yardsFrom : YOK yM_yardsFrom 1 := ⟨by decide +kernel, mT (i := 769) (by decide +kernel) rfl, ⟨by decide +kernel, by decide +kernel⟩, by decide +kernel, mT (i := 11) (by decide +kernel) rfl⟩
def yM_kite : YI := (⟨"KiteYardsModel", "kite", "(II)I"⟩, (prog_11_method_20_code, (3, ((Option.some FieldType.int), ({ frames := 3, cells := 0, slots := 0, locals := 68 } : Room)))))
theorem okM_kite : YOK yM_kite 2 := ⟨by decide +kernel, mT (i := 773) (by decide +kernel) rfl, ⟨by decide +kernel, by decide +kernel⟩, by decide +kernel, mT (i := 11) (by decide +kernel) rfl⟩
def yM_noKite : YI := (⟨"KiteYardsModel", "noKite", "(I)Z"⟩, (prog_11_method_7_code, (2, ((Option.some FieldType.boolean), ({ frames := 1, cells := 0, slots := 0, locals := 25 } : Room)))))
theorem okM_noKite : YOK yM_noKite 1 := ⟨by decide +kernel, mT (i := 777) (by decide +kernel) rfl, ⟨by decide +kernel, by decide +kernel⟩, by decide +kernel, mT (i := 11) (by decide +kernel) rfl⟩
def yM_letOut : YI := (⟨"KiteYardsModel", "letOut", "(II)I"⟩, (prog_11_method_22_code, (3, ((Option.some FieldType.int), ({ frames := 2, cells := 0, slots := 0, locals := 46 } : Room)))))
theorem okM_letOut : YOK yM_letOut 2 := ⟨by decide +kernel, mT (i := 781) (by decide +kernel) rfl, ⟨by decide +kernel, by decide +kernel⟩, by decide +kernel, mT (i := 11) (by decide +kernel) rfl⟩
def yM_note : YI := (⟨"KiteYardsModel", "note", "()V"⟩, (prog_11_method_21_code, (2, ((none), ({ frames := 0, cells := 0, slots := 0, locals := 0 } : Room)))))
theorem okM_note : YOK yM_note 0 := ⟨by decide +kernel, mT (i := 788) (by decide +kernel) rfl, ⟨by decide +kernel, by decide +kernel⟩, by decide +kernel, mT (i := 11) (by decide +kernel) rfl⟩
def yM_set : YI := (⟨"KiteYardsModel", "set", "(II)I"⟩, (prog_11_method_23_code, (4, ((Option.some FieldType.int), ({ frames := 2, cells := 0, slots := 0, locals := 46 } : Room)))))
theorem okM_set : YOK yM_set 2 := ⟨by decide +kernel, mT (i := 792) (by decide +kernel) rfl, ⟨by decide +kernel, by decide +kernel⟩, by decide +kernel, mT (i := 11) (by decide +kernel) rfl⟩
def yM_cut : YI := (⟨"KiteYardsModel", "cut", "(I)I"⟩, (prog_11_method_24_code, (2, ((Option.some FieldType.int), ({ frames := 2, cells := 0, slots := 0, locals := 46 } : Room)))))
theorem okM_cut : YOK yM_cut 1 := ⟨by decide +kernel, mT (i := 798) (by decide +kernel) rfl, ⟨by decide +kernel, by decide +kernel⟩, by decide +kernel, mT (i := 11) (by decide +kernel) rfl⟩
def yM_turn : YI := (⟨"KiteYardsModel", "turn", "(II)I"⟩, (prog_11_method_25_code, (4, ((Option.some FieldType.int), ({ frames := 1, cells := 0, slots := 0, locals := 25 } : Room)))))
theorem okM_turn : YOK yM_turn 2 := ⟨by decide +kernel, mT (i := 802) (by decide +kernel) rfl, ⟨by decide +kernel, by decide +kernel⟩, by decide +kernel, mT (i := 11) (by decide +kernel) rfl⟩
def yM_undo : YI := (⟨"KiteYardsModel", "undo", "()I"⟩, (prog_11_method_26_code, (2, ((Option.some FieldType.int), ({ frames := 0, cells := 0, slots := 0, locals := 0 } : Room)))))
theorem okM_undo : YOK yM_undo 0 := ⟨by decide +kernel, mT (i := 806) (by decide +kernel) rfl, ⟨by decide +kernel, by decide +kernel⟩, by decide +kernel, mT (i := 11) (by decide +kernel) rfl⟩
def yM_sees : YI := (⟨"KiteYardsModel", "sees", "(I)I"⟩, (prog_11_method_28_code, (2, ((Option.some FieldType.int), ({ frames := 3, cells := 0, slots := 0, locals := 68 } : Room)))))
theorem okM_sees : YOK yM_sees 1 := ⟨by decide +kernel, mT (i := 810) (by decide +kernel) rfl, ⟨by decide +kernel, by decide +kernel⟩, by decide +kernel, mT (i := 11) (by decide +kernel) rfl⟩
def yM_doesSee : YI := (⟨"KiteYardsModel", "doesSee", "([II)Z"⟩, (prog_11_method_17_code, (4, ((Option.some FieldType.boolean), ({ frames := 1, cells := 0, slots := 0, locals := 21 } : Room)))))
theorem okM_doesSee : YOK yM_doesSee 2 := ⟨by decide +kernel, mT (i := 816) (by decide +kernel) rfl, ⟨by decide +kernel, by decide +kernel⟩, by decide +kernel, mT (i := 11) (by decide +kernel) rfl⟩
def yM_cheapest : YI := (⟨"KiteYardsModel", "cheapest", "(II)I"⟩, (prog_11_method_32_code, (3, ((Option.some FieldType.int), ({ frames := 3, cells := 0, slots := 0, locals := 78 } : Room)))))
theorem okM_cheapest : YOK yM_cheapest 2 := ⟨by decide +kernel, mT (i := 820) (by decide +kernel) rfl, ⟨by decide +kernel, by decide +kernel⟩, by decide +kernel, mT (i := 11) (by decide +kernel) rfl⟩
def yM_noSpot : YI := (⟨"KiteYardsModel", "noSpot", "(II)Z"⟩, (prog_11_method_31_code, (2, ((Option.some FieldType.boolean), ({ frames := 1, cells := 0, slots := 0, locals := 25 } : Room)))))
theorem okM_noSpot : YOK yM_noSpot 2 := ⟨by decide +kernel, mT (i := 823) (by decide +kernel) rfl, ⟨by decide +kernel, by decide +kernel⟩, by decide +kernel, mT (i := 11) (by decide +kernel) rfl⟩
def yM_findWay : YI := (⟨"KiteYardsModel", "findWay", "(IZ)V"⟩, (prog_11_method_30_code, (11, ((none), ({ frames := 2, cells := 0, slots := 0, locals := 48 } : Room)))))
theorem okM_findWay : YOK yM_findWay 2 := ⟨by decide +kernel, mT (i := 827) (by decide +kernel) rfl, ⟨by decide +kernel, by decide +kernel⟩, by decide +kernel, mT (i := 11) (by decide +kernel) rfl⟩
def yM_power : YI := (⟨"KiteYardsModel", "power", "(II)I"⟩, (prog_11_method_29_code, (4, ((Option.some FieldType.int), ({ frames := 0, cells := 0, slots := 0, locals := 0 } : Room)))))
theorem okM_power : YOK yM_power 2 := ⟨by decide +kernel, mT (i := 830) (by decide +kernel) rfl, ⟨by decide +kernel, by decide +kernel⟩, by decide +kernel, mT (i := 11) (by decide +kernel) rfl⟩
def yM_begin : YI := (⟨"KiteYardsModel", "begin", "()V"⟩, (prog_11_method_27_code, (2, ((none), ({ frames := 0, cells := 0, slots := 0, locals := 0 } : Room)))))
theorem okM_begin : YOK yM_begin 0 := ⟨by decide +kernel, mT (i := 834) (by decide +kernel) rfl, ⟨by decide +kernel, by decide +kernel⟩, by decide +kernel, mT (i := 11) (by decide +kernel) rfl⟩
def yM_fewest : YI := (⟨"KiteYardsModel", "fewest", "(II)I"⟩, (prog_11_method_33_code, (3, ((Option.some FieldType.int), ({ frames := 3, cells := 0, slots := 0, locals := 78 } : Room)))))
theorem okM_fewest : YOK yM_fewest 2 := ⟨by decide +kernel, mT (i := 838) (by decide +kernel) rfl, ⟨by decide +kernel, by decide +kernel⟩, by decide +kernel, mT (i := 11) (by decide +kernel) rfl⟩
def yM_whereToCut : YI := (⟨"KiteYardsModel", "whereToCut", "()I"⟩, (prog_11_method_34_code, (3, ((Option.some FieldType.int), ({ frames := 3, cells := 0, slots := 0, locals := 68 } : Room)))))
theorem okM_whereToCut : YOK yM_whereToCut 0 := ⟨by decide +kernel, mT (i := 842) (by decide +kernel) rfl, ⟨by decide +kernel, by decide +kernel⟩, by decide +kernel, mT (i := 11) (by decide +kernel) rfl⟩
def yM_drops : YI := (⟨"KiteYardsModel", "drops", "(I)I"⟩, (prog_11_method_35_code, (2, ((Option.some FieldType.int), ({ frames := 2, cells := 0, slots := 0, locals := 46 } : Room)))))
theorem okM_drops : YOK yM_drops 1 := ⟨by decide +kernel, mT (i := 846) (by decide +kernel) rfl, ⟨by decide +kernel, by decide +kernel⟩, by decide +kernel, mT (i := 11) (by decide +kernel) rfl⟩
def yM_share : YI := (⟨"KiteYardsModel", "share", "(IZ)I"⟩, (prog_11_method_40_code, (7, ((Option.some FieldType.int), ({ frames := 3, cells := 0, slots := 0, locals := 72 } : Room)))))
theorem okM_share : YOK yM_share 2 := ⟨by decide +kernel, mT (i := 850) (by decide +kernel) rfl, ⟨by decide +kernel, by decide +kernel⟩, by decide +kernel, mT (i := 11) (by decide +kernel) rfl⟩
def yM_worthOf : YI := (⟨"KiteYardsModel", "worthOf", "(I)I"⟩, (prog_11_method_36_code, (5, ((Option.some FieldType.int), ({ frames := 2, cells := 0, slots := 0, locals := 48 } : Room)))))
theorem okM_worthOf : YOK yM_worthOf 1 := ⟨by decide +kernel, mT (i := 854) (by decide +kernel) rfl, ⟨by decide +kernel, by decide +kernel⟩, by decide +kernel, mT (i := 11) (by decide +kernel) rfl⟩
def yM_has : YI := (⟨"KiteYardsModel", "has", "(II)Z"⟩, (prog_11_method_4_code, (2, ((Option.some FieldType.boolean), ({ frames := 0, cells := 0, slots := 0, locals := 0 } : Room)))))
theorem okM_has : YOK yM_has 2 := ⟨by decide +kernel, mT (i := 857) (by decide +kernel) rfl, ⟨by decide +kernel, by decide +kernel⟩, by decide +kernel, mT (i := 11) (by decide +kernel) rfl⟩
def yM_many : YI := (⟨"KiteYardsModel", "many", "(I)I"⟩, (prog_11_method_5_code, (3, ((Option.some FieldType.int), ({ frames := 0, cells := 0, slots := 0, locals := 0 } : Room)))))
theorem okM_many : YOK yM_many 1 := ⟨by decide +kernel, mT (i := 860) (by decide +kernel) rfl, ⟨by decide +kernel, by decide +kernel⟩, by decide +kernel, mT (i := 11) (by decide +kernel) rfl⟩
def yM_orders : YI := (⟨"KiteYardsModel", "orders", "(I)I"⟩, (prog_11_method_37_code, (3, ((Option.some FieldType.int), ({ frames := 0, cells := 0, slots := 0, locals := 0 } : Room)))))
theorem okM_orders : YOK yM_orders 1 := ⟨by decide +kernel, mT (i := 863) (by decide +kernel) rfl, ⟨by decide +kernel, by decide +kernel⟩, by decide +kernel, mT (i := 11) (by decide +kernel) rfl⟩
def yM_fraction : YI := (⟨"KiteYardsModel", "fraction", "(IIZ)I"⟩, (prog_11_method_39_code, (4, ((Option.some FieldType.int), ({ frames := 1, cells := 0, slots := 0, locals := 24 } : Room)))))
theorem okM_fraction : YOK yM_fraction 3 := ⟨by decide +kernel, mT (i := 866) (by decide +kernel) rfl, ⟨by decide +kernel, by decide +kernel⟩, by decide +kernel, mT (i := 11) (by decide +kernel) rfl⟩
def yM_divisor : YI := (⟨"KiteYardsModel", "divisor", "(II)I"⟩, (prog_11_method_38_code, (5, ((Option.some FieldType.int), ({ frames := 0, cells := 0, slots := 0, locals := 0 } : Room)))))
theorem okM_divisor : YOK yM_divisor 2 := ⟨by decide +kernel, mT (i := 869) (by decide +kernel) rfl, ⟨by decide +kernel, by decide +kernel⟩, by decide +kernel, mT (i := 11) (by decide +kernel) rfl⟩
def yM_arrives : YI := (⟨"KiteYardsModel", "arrives", "(II)I"⟩, (prog_11_method_44_code, (3, ((Option.some FieldType.int), ({ frames := 2, cells := 0, slots := 0, locals := 48 } : Room)))))
theorem okM_arrives : YOK yM_arrives 2 := ⟨by decide +kernel, mT (i := 873) (by decide +kernel) rfl, ⟨by decide +kernel, by decide +kernel⟩, by decide +kernel, mT (i := 11) (by decide +kernel) rfl⟩
def yM_noWord : YI := (⟨"KiteYardsModel", "noWord", "(II)Z"⟩, (prog_11_method_41_code, (4, ((Option.some FieldType.boolean), ({ frames := 1, cells := 0, slots := 0, locals := 25 } : Room)))))
theorem okM_noWord : YOK yM_noWord 2 := ⟨by decide +kernel, mT (i := 876) (by decide +kernel) rfl, ⟨by decide +kernel, by decide +kernel⟩, by decide +kernel, mT (i := 11) (by decide +kernel) rfl⟩
def yM_bridles : YI := (⟨"KiteYardsModel", "bridles", "()I"⟩, (prog_11_method_43_code, (3, ((Option.some FieldType.int), ({ frames := 0, cells := 0, slots := 0, locals := 0 } : Room)))))
theorem okM_bridles : YOK yM_bridles 0 := ⟨by decide +kernel, mT (i := 881) (by decide +kernel) rfl, ⟨by decide +kernel, by decide +kernel⟩, by decide +kernel, mT (i := 11) (by decide +kernel) rfl⟩
def yM_moved : YI := (⟨"KiteYardsModel", "moved", "(III)I"⟩, (prog_11_method_42_code, (5, ((Option.some FieldType.int), ({ frames := 1, cells := 0, slots := 0, locals := 23 } : Room)))))
theorem okM_moved : YOK yM_moved 3 := ⟨by decide +kernel, mT (i := 884) (by decide +kernel) rfl, ⟨by decide +kernel, by decide +kernel⟩, by decide +kernel, mT (i := 11) (by decide +kernel) rfl⟩
def yM_sent : YI := (⟨"KiteYardsModel", "sent", "(II)I"⟩, (prog_11_method_45_code, (3, ((Option.some FieldType.int), ({ frames := 2, cells := 0, slots := 0, locals := 48 } : Room)))))
theorem okM_sent : YOK yM_sent 2 := ⟨by decide +kernel, mT (i := 888) (by decide +kernel) rfl, ⟨by decide +kernel, by decide +kernel⟩, by decide +kernel, mT (i := 11) (by decide +kernel) rfl⟩
def yM_taken : YI := (⟨"KiteYardsModel", "taken", "(III)I"⟩, (prog_11_method_46_code, (8, ((Option.some FieldType.int), ({ frames := 2, cells := 0, slots := 0, locals := 48 } : Room)))))
theorem okM_taken : YOK yM_taken 3 := ⟨by decide +kernel, mT (i := 892) (by decide +kernel) rfl, ⟨by decide +kernel, by decide +kernel⟩, by decide +kernel, mT (i := 11) (by decide +kernel) rfl⟩
def yM_seeAt : YI := (⟨"KiteYardsModel", "seeAt", "(II)I"⟩, (prog_11_method_47_code, (3, ((Option.some FieldType.int), ({ frames := 2, cells := 0, slots := 0, locals := 46 } : Room)))))
theorem okM_seeAt : YOK yM_seeAt 2 := ⟨by decide +kernel, mT (i := 896) (by decide +kernel) rfl, ⟨by decide +kernel, by decide +kernel⟩, by decide +kernel, mT (i := 11) (by decide +kernel) rfl⟩
def yM_unsee : YI := (⟨"KiteYardsModel", "unsee", "()I"⟩, (prog_11_method_48_code, (2, ((Option.some FieldType.int), ({ frames := 0, cells := 0, slots := 0, locals := 0 } : Room)))))
theorem okM_unsee : YOK yM_unsee 0 := ⟨by decide +kernel, mT (i := 901) (by decide +kernel) rfl, ⟨by decide +kernel, by decide +kernel⟩, by decide +kernel, mT (i := 11) (by decide +kernel) rfl⟩
def yM_winds : YI := (⟨"KiteYardsModel", "winds", "(I)I"⟩, (prog_11_method_50_code, (2, ((Option.some FieldType.int), ({ frames := 3, cells := 0, slots := 0, locals := 71 } : Room)))))
theorem okM_winds : YOK yM_winds 1 := ⟨by decide +kernel, mT (i := 905) (by decide +kernel) rfl, ⟨by decide +kernel, by decide +kernel⟩, by decide +kernel, mT (i := 11) (by decide +kernel) rfl⟩
def yM_findWinds : YI := (⟨"KiteYardsModel", "findWinds", "()V"⟩, (prog_11_method_49_code, (4, ((none), ({ frames := 2, cells := 0, slots := 0, locals := 48 } : Room)))))
theorem okM_findWinds : YOK yM_findWinds 0 := ⟨by decide +kernel, mT (i := 909) (by decide +kernel) rfl, ⟨by decide +kernel, by decide +kernel⟩, by decide +kernel, mT (i := 11) (by decide +kernel) rfl⟩
def yM_rests : YI := (⟨"KiteYardsModel", "rests", "(IIIII)I"⟩, (prog_11_method_53_code, (6, ((Option.some FieldType.int), ({ frames := 4, cells := 0, slots := 0, locals := 104 } : Room)))))
theorem okM_rests : YOK yM_rests 5 := ⟨by decide +kernel, mT (i := 913) (by decide +kernel) rfl, ⟨by decide +kernel, by decide +kernel⟩, by decide +kernel, mT (i := 11) (by decide +kernel) rfl⟩
def yM_findRests : YI := (⟨"KiteYardsModel", "findRests", "(IIII)V"⟩, (prog_11_method_52_code, (11, ((none), ({ frames := 3, cells := 0, slots := 0, locals := 74 } : Room)))))
theorem okM_findRests : YOK yM_findRests 4 := ⟨by decide +kernel, mT (i := 919) (by decide +kernel) rfl, ⟨by decide +kernel, by decide +kernel⟩, by decide +kernel, mT (i := 11) (by decide +kernel) rfl⟩
def yM_farBy : YI := (⟨"KiteYardsModel", "farBy", "(IIIIZI)I"⟩, (prog_11_method_51_code, (7, ((Option.some FieldType.int), ({ frames := 2, cells := 0, slots := 0, locals := 48 } : Room)))))
theorem okM_farBy : YOK yM_farBy 6 := ⟨by decide +kernel, mT (i := 923) (by decide +kernel) rfl, ⟨by decide +kernel, by decide +kernel⟩, by decide +kernel, mT (i := 11) (by decide +kernel) rfl⟩
def yM_gusts : YI := (⟨"KiteYardsModel", "gusts", "(IIZ)I"⟩, (prog_11_method_54_code, (7, ((Option.some FieldType.int), ({ frames := 2, cells := 0, slots := 0, locals := 48 } : Room)))))
theorem okM_gusts : YOK yM_gusts 3 := ⟨by decide +kernel, mT (i := 927) (by decide +kernel) rfl, ⟨by decide +kernel, by decide +kernel⟩, by decide +kernel, mT (i := 11) (by decide +kernel) rfl⟩
def yM_seed : YI := (⟨"KiteYardsModel", "seed", "(J)J"⟩, (prog_11_method_55_code, (5, ((Option.some FieldType.long), ({ frames := 0, cells := 0, slots := 0, locals := 0 } : Room)))))
theorem okM_seed : YOK yM_seed 1 := ⟨by decide +kernel, mT (i := 932) (by decide +kernel) rfl, ⟨by decide +kernel, by decide +kernel⟩, by decide +kernel, mT (i := 11) (by decide +kernel) rfl⟩
def yM_afternoons : YI := (⟨"KiteYardsModel", "afternoons", "(I)I"⟩, (prog_11_method_56_code, (5, ((Option.some FieldType.int), ({ frames := 2, cells := 0, slots := 0, locals := 48 } : Room)))))
theorem okM_afternoons : YOK yM_afternoons 1 := ⟨by decide +kernel, mT (i := 936) (by decide +kernel) rfl, ⟨by decide +kernel, by decide +kernel⟩, by decide +kernel, mT (i := 11) (by decide +kernel) rfl⟩
def yM_keep : YI := (⟨"KiteYardsModel", "keep", "(I)I"⟩, (prog_11_method_57_code, (3, ((Option.some FieldType.int), ({ frames := 1, cells := 0, slots := 0, locals := 25 } : Room)))))
theorem okM_keep : YOK yM_keep 1 := ⟨by decide +kernel, mT (i := 943) (by decide +kernel) rfl, ⟨by decide +kernel, by decide +kernel⟩, by decide +kernel, mT (i := 11) (by decide +kernel) rfl⟩
def yM_again : YI := (⟨"KiteYardsModel", "again", "(I)I"⟩, (prog_11_method_58_code, (3, ((Option.some FieldType.int), ({ frames := 1, cells := 0, slots := 0, locals := 25 } : Room)))))
theorem okM_again : YOK yM_again 1 := ⟨by decide +kernel, mT (i := 947) (by decide +kernel) rfl, ⟨by decide +kernel, by decide +kernel⟩, by decide +kernel, mT (i := 11) (by decide +kernel) rfl⟩
def yLaw : YI := (x, (code, (maxLocals, (ret, room_1))))
theorem fText_9 : FL "KiteYards$Text" 9 6 0 true (.array .int) := ⟨_, rfl, by decide +kernel, mT (i := 27) (by decide +kernel) rfl, by decide +kernel, by decide +kernel, by decide +kernel⟩
theorem fText_15 : FL "KiteYards$Text" 15 6 1 false .int := ⟨_, rfl, by decide +kernel, mT (i := 28) (by decide +kernel) rfl, by decide +kernel, by decide +kernel, by decide +kernel⟩
theorem fK_84 : FL "KiteYards" 84 6 1 false .int := ⟨_, rfl, by decide +kernel, mT (i := 29) (by decide +kernel) rfl, by decide +kernel, by decide +kernel, by decide +kernel⟩
theorem fLine_25 : FL "KiteYards$Line" 25 2 0 false .int := ⟨_, rfl, by decide +kernel, mT (i := 42) (by decide +kernel) rfl, by decide +kernel, by decide +kernel, by decide +kernel⟩
theorem fFlight_18 : FL "KiteYards$Flight" 18 2 0 false .int := ⟨_, rfl, by decide +kernel, mT (i := 43) (by decide +kernel) rfl, by decide +kernel, by decide +kernel, by decide +kernel⟩
theorem fK_106 : FL "KiteYards" 106 2 0 false .int := ⟨_, rfl, by decide +kernel, mT (i := 44) (by decide +kernel) rfl, by decide +kernel, by decide +kernel, by decide +kernel⟩
theorem fText_58 : FL "KiteYards$Text" 58 2 0 false .int := ⟨_, rfl, by decide +kernel, mT (i := 45) (by decide +kernel) rfl, by decide +kernel, by decide +kernel, by decide +kernel⟩
theorem fFlight_47 : FL "KiteYards$Flight" 47 2 1 false .int := ⟨_, rfl, by decide +kernel, mT (i := 46) (by decide +kernel) rfl, by decide +kernel, by decide +kernel, by decide +kernel⟩
theorem fLine_42 : FL "KiteYards$Line" 42 2 1 false .int := ⟨_, rfl, by decide +kernel, mT (i := 47) (by decide +kernel) rfl, by decide +kernel, by decide +kernel, by decide +kernel⟩
theorem fText_38 : FL "KiteYards$Text" 38 2 1 false .int := ⟨_, rfl, by decide +kernel, mT (i := 48) (by decide +kernel) rfl, by decide +kernel, by decide +kernel, by decide +kernel⟩
theorem fK_109 : FL "KiteYards" 109 2 1 false .int := ⟨_, rfl, by decide +kernel, mT (i := 49) (by decide +kernel) rfl, by decide +kernel, by decide +kernel, by decide +kernel⟩
theorem fFlight_50 : FL "KiteYards$Flight" 50 2 2 false .int := ⟨_, rfl, by decide +kernel, mT (i := 50) (by decide +kernel) rfl, by decide +kernel, by decide +kernel, by decide +kernel⟩
theorem fLine_45 : FL "KiteYards$Line" 45 2 2 false .int := ⟨_, rfl, by decide +kernel, mT (i := 51) (by decide +kernel) rfl, by decide +kernel, by decide +kernel, by decide +kernel⟩
theorem fText_43 : FL "KiteYards$Text" 43 2 2 false .int := ⟨_, rfl, by decide +kernel, mT (i := 52) (by decide +kernel) rfl, by decide +kernel, by decide +kernel, by decide +kernel⟩
theorem fK_112 : FL "KiteYards" 112 2 2 false .int := ⟨_, rfl, by decide +kernel, mT (i := 53) (by decide +kernel) rfl, by decide +kernel, by decide +kernel, by decide +kernel⟩
theorem fFlight_44 : FL "KiteYards$Flight" 44 2 3 false .int := ⟨_, rfl, by decide +kernel, mT (i := 54) (by decide +kernel) rfl, by decide +kernel, by decide +kernel, by decide +kernel⟩
theorem fLine_48 : FL "KiteYards$Line" 48 2 3 false .int := ⟨_, rfl, by decide +kernel, mT (i := 55) (by decide +kernel) rfl, by decide +kernel, by decide +kernel, by decide +kernel⟩
theorem fText_46 : FL "KiteYards$Text" 46 2 3 false .int := ⟨_, rfl, by decide +kernel, mT (i := 56) (by decide +kernel) rfl, by decide +kernel, by decide +kernel, by decide +kernel⟩
theorem fK_115 : FL "KiteYards" 115 2 3 false .int := ⟨_, rfl, by decide +kernel, mT (i := 57) (by decide +kernel) rfl, by decide +kernel, by decide +kernel, by decide +kernel⟩
theorem fLine_9 : FL "KiteYards$Line" 9 2 4 false .int := ⟨_, rfl, by decide +kernel, mT (i := 58) (by decide +kernel) rfl, by decide +kernel, by decide +kernel, by decide +kernel⟩
theorem fFlight_60 : FL "KiteYards$Flight" 60 2 4 false .int := ⟨_, rfl, by decide +kernel, mT (i := 59) (by decide +kernel) rfl, by decide +kernel, by decide +kernel, by decide +kernel⟩
theorem fText_49 : FL "KiteYards$Text" 49 2 4 false .int := ⟨_, rfl, by decide +kernel, mT (i := 60) (by decide +kernel) rfl, by decide +kernel, by decide +kernel, by decide +kernel⟩
theorem fK_118 : FL "KiteYards" 118 2 4 false .int := ⟨_, rfl, by decide +kernel, mT (i := 61) (by decide +kernel) rfl, by decide +kernel, by decide +kernel, by decide +kernel⟩
theorem fLine_15 : FL "KiteYards$Line" 15 2 5 true (.array .int) := ⟨_, rfl, by decide +kernel, mT (i := 62) (by decide +kernel) rfl, by decide +kernel, by decide +kernel, by decide +kernel⟩
theorem fFlight_28 : FL "KiteYards$Flight" 28 2 5 true (.array .int) := ⟨_, rfl, by decide +kernel, mT (i := 63) (by decide +kernel) rfl, by decide +kernel, by decide +kernel, by decide +kernel⟩
theorem fText_61 : FL "KiteYards$Text" 61 2 5 true (.array .int) := ⟨_, rfl, by decide +kernel, mT (i := 64) (by decide +kernel) rfl, by decide +kernel, by decide +kernel, by decide +kernel⟩
theorem fK_136 : FL "KiteYards" 136 2 5 true (.array .int) := ⟨_, rfl, by decide +kernel, mT (i := 65) (by decide +kernel) rfl, by decide +kernel, by decide +kernel, by decide +kernel⟩
theorem fLine_19 : FL "KiteYards$Line" 19 2 6 true (.array .int) := ⟨_, rfl, by decide +kernel, mT (i := 66) (by decide +kernel) rfl, by decide +kernel, by decide +kernel, by decide +kernel⟩
theorem fFlight_53 : FL "KiteYards$Flight" 53 2 6 true (.array .int) := ⟨_, rfl, by decide +kernel, mT (i := 67) (by decide +kernel) rfl, by decide +kernel, by decide +kernel, by decide +kernel⟩
theorem fText_64 : FL "KiteYards$Text" 64 2 6 true (.array .int) := ⟨_, rfl, by decide +kernel, mT (i := 68) (by decide +kernel) rfl, by decide +kernel, by decide +kernel, by decide +kernel⟩
theorem fK_144 : FL "KiteYards" 144 2 6 true (.array .int) := ⟨_, rfl, by decide +kernel, mT (i := 69) (by decide +kernel) rfl, by decide +kernel, by decide +kernel, by decide +kernel⟩
theorem fLine_22 : FL "KiteYards$Line" 22 2 7 true (.array .int) := ⟨_, rfl, by decide +kernel, mT (i := 70) (by decide +kernel) rfl, by decide +kernel, by decide +kernel, by decide +kernel⟩
theorem fFlight_35 : FL "KiteYards$Flight" 35 2 7 true (.array .int) := ⟨_, rfl, by decide +kernel, mT (i := 71) (by decide +kernel) rfl, by decide +kernel, by decide +kernel, by decide +kernel⟩
theorem fText_67 : FL "KiteYards$Text" 67 2 7 true (.array .int) := ⟨_, rfl, by decide +kernel, mT (i := 72) (by decide +kernel) rfl, by decide +kernel, by decide +kernel, by decide +kernel⟩
theorem fK_147 : FL "KiteYards" 147 2 7 true (.array .int) := ⟨_, rfl, by decide +kernel, mT (i := 73) (by decide +kernel) rfl, by decide +kernel, by decide +kernel, by decide +kernel⟩
theorem fPast_13 : FL "KiteYards$Past" 13 3 0 true (.array (.object "KiteYards$Line")) := ⟨_, rfl, by decide +kernel, mT (i := 104) (by decide +kernel) rfl, by decide +kernel, by decide +kernel, by decide +kernel⟩
theorem fPast_19 : FL "KiteYards$Past" 19 3 1 false .int := ⟨_, rfl, by decide +kernel, mT (i := 105) (by decide +kernel) rfl, by decide +kernel, by decide +kernel, by decide +kernel⟩
theorem fK_130 : FL "KiteYards" 130 3 1 false .int := ⟨_, rfl, by decide +kernel, mT (i := 106) (by decide +kernel) rfl, by decide +kernel, by decide +kernel, by decide +kernel⟩
theorem fSightings_9 : FL "KiteYards$Sightings" 9 4 0 true (.array .int) := ⟨_, rfl, by decide +kernel, mT (i := 119) (by decide +kernel) rfl, by decide +kernel, by decide +kernel, by decide +kernel⟩
theorem fSightings_15 : FL "KiteYards$Sightings" 15 4 1 true (.array .int) := ⟨_, rfl, by decide +kernel, mT (i := 120) (by decide +kernel) rfl, by decide +kernel, by decide +kernel, by decide +kernel⟩
theorem fSightings_18 : FL "KiteYards$Sightings" 18 4 2 false .int := ⟨_, rfl, by decide +kernel, mT (i := 121) (by decide +kernel) rfl, by decide +kernel, by decide +kernel, by decide +kernel⟩
theorem fK_131 : FL "KiteYards" 131 4 2 false .int := ⟨_, rfl, by decide +kernel, mT (i := 122) (by decide +kernel) rfl, by decide +kernel, by decide +kernel, by decide +kernel⟩
theorem fFlight_9 : FL "KiteYards$Flight" 9 1 0 true (.array .int) := ⟨_, rfl, by decide +kernel, mT (i := 137) (by decide +kernel) rfl, by decide +kernel, by decide +kernel, by decide +kernel⟩
theorem fK_150 : FL "KiteYards" 150 1 0 true (.array .int) := ⟨_, rfl, by decide +kernel, mT (i := 138) (by decide +kernel) rfl, by decide +kernel, by decide +kernel, by decide +kernel⟩
theorem fFlight_15 : FL "KiteYards$Flight" 15 1 1 true (.array .int) := ⟨_, rfl, by decide +kernel, mT (i := 139) (by decide +kernel) rfl, by decide +kernel, by decide +kernel, by decide +kernel⟩
theorem fSightings_33 : FL "KiteYards$Sightings" 33 1 1 true (.array .int) := ⟨_, rfl, by decide +kernel, mT (i := 140) (by decide +kernel) rfl, by decide +kernel, by decide +kernel, by decide +kernel⟩
theorem fK_153 : FL "KiteYards" 153 1 1 true (.array .int) := ⟨_, rfl, by decide +kernel, mT (i := 141) (by decide +kernel) rfl, by decide +kernel, by decide +kernel, by decide +kernel⟩
theorem fFlight_24 : FL "KiteYards$Flight" 24 1 2 false .int := ⟨_, rfl, by decide +kernel, mT (i := 142) (by decide +kernel) rfl, by decide +kernel, by decide +kernel, by decide +kernel⟩
theorem fSightings_30 : FL "KiteYards$Sightings" 30 1 2 false .int := ⟨_, rfl, by decide +kernel, mT (i := 143) (by decide +kernel) rfl, by decide +kernel, by decide +kernel, by decide +kernel⟩
theorem fFlight_25 : FL "KiteYards$Flight" 25 1 3 false .int := ⟨_, rfl, by decide +kernel, mT (i := 144) (by decide +kernel) rfl, by decide +kernel, by decide +kernel, by decide +kernel⟩
theorem fK_127 : FL "KiteYards" 127 1 3 false .int := ⟨_, rfl, by decide +kernel, mT (i := 145) (by decide +kernel) rfl, by decide +kernel, by decide +kernel, by decide +kernel⟩
theorem fWay_9 : FL "KiteYards$Way" 9 7 0 true (.array .int) := ⟨_, rfl, by decide +kernel, mT (i := 161) (by decide +kernel) rfl, by decide +kernel, by decide +kernel, by decide +kernel⟩
theorem fK_283 : FL "KiteYards" 283 7 0 true (.array .int) := ⟨_, rfl, by decide +kernel, mT (i := 162) (by decide +kernel) rfl, by decide +kernel, by decide +kernel, by decide +kernel⟩
theorem fWay_15 : FL "KiteYards$Way" 15 7 1 false .int := ⟨_, rfl, by decide +kernel, mT (i := 163) (by decide +kernel) rfl, by decide +kernel, by decide +kernel, by decide +kernel⟩
theorem fWay_19 : FL "KiteYards$Way" 19 7 2 false .int := ⟨_, rfl, by decide +kernel, mT (i := 164) (by decide +kernel) rfl, by decide +kernel, by decide +kernel, by decide +kernel⟩
theorem fBest_9 : FL "KiteYards$Best" 9 0 0 false .int := ⟨_, rfl, by decide +kernel, mT (i := 178) (by decide +kernel) rfl, by decide +kernel, by decide +kernel, by decide +kernel⟩
theorem fK_184 : FL "KiteYards" 184 0 0 false .int := ⟨_, rfl, by decide +kernel, mT (i := 179) (by decide +kernel) rfl, by decide +kernel, by decide +kernel, by decide +kernel⟩
theorem fBest_15 : FL "KiteYards$Best" 15 0 1 false .int := ⟨_, rfl, by decide +kernel, mT (i := 180) (by decide +kernel) rfl, by decide +kernel, by decide +kernel, by decide +kernel⟩
theorem fK_187 : FL "KiteYards" 187 0 1 false .int := ⟨_, rfl, by decide +kernel, mT (i := 181) (by decide +kernel) rfl, by decide +kernel, by decide +kernel, by decide +kernel⟩
theorem fTally_15 : FL "KiteYards$Tally" 15 5 0 false .int := ⟨_, rfl, by decide +kernel, mT (i := 193) (by decide +kernel) rfl, by decide +kernel, by decide +kernel, by decide +kernel⟩
theorem fK_228 : FL "KiteYards" 228 5 0 false .int := ⟨_, rfl, by decide +kernel, mT (i := 194) (by decide +kernel) rfl, by decide +kernel, by decide +kernel, by decide +kernel⟩
theorem fTally_9 : FL "KiteYards$Tally" 9 5 1 false .int := ⟨_, rfl, by decide +kernel, mT (i := 195) (by decide +kernel) rfl, by decide +kernel, by decide +kernel, by decide +kernel⟩
theorem fK_229 : FL "KiteYards" 229 5 1 false .int := ⟨_, rfl, by decide +kernel, mT (i := 196) (by decide +kernel) rfl, by decide +kernel, by decide +kernel, by decide +kernel⟩
theorem fK_10 : FL "KiteYards" 10 8 0 true (.object "KiteYards$Text") := ⟨_, rfl, by decide +kernel, mT (i := 202) (by decide +kernel) rfl, by decide +kernel, by decide +kernel, by decide +kernel⟩
theorem fK_19 : FL "KiteYards" 19 8 1 true (.object "KiteYards$Line") := ⟨_, rfl, by decide +kernel, mT (i := 203) (by decide +kernel) rfl, by decide +kernel, by decide +kernel, by decide +kernel⟩
theorem fK_26 : FL "KiteYards" 26 8 2 true (.object "KiteYards$Past") := ⟨_, rfl, by decide +kernel, mT (i := 204) (by decide +kernel) rfl, by decide +kernel, by decide +kernel, by decide +kernel⟩
theorem fK_34 : FL "KiteYards" 34 8 3 true (.array (.object "KiteYards$Line")) := ⟨_, rfl, by decide +kernel, mT (i := 205) (by decide +kernel) rfl, by decide +kernel, by decide +kernel, by decide +kernel⟩
theorem fK_38 : FL "KiteYards" 38 8 4 true (.array .boolean) := ⟨_, rfl, by decide +kernel, mT (i := 206) (by decide +kernel) rfl, by decide +kernel, by decide +kernel, by decide +kernel⟩
theorem fK_45 : FL "KiteYards" 45 8 5 true (.object "KiteYards$Sightings") := ⟨_, rfl, by decide +kernel, mT (i := 207) (by decide +kernel) rfl, by decide +kernel, by decide +kernel, by decide +kernel⟩
theorem fK_49 : FL "KiteYards" 49 8 6 false .long := ⟨_, rfl, by decide +kernel, mT (i := 208) (by decide +kernel) rfl, by decide +kernel, by decide +kernel, by decide +kernel⟩
theorem fK_53 : FL "KiteYards" 53 8 7 true (.object "KiteYards$Line") := ⟨_, rfl, by decide +kernel, mT (i := 209) (by decide +kernel) rfl, by decide +kernel, by decide +kernel, by decide +kernel⟩
theorem fK_59 : FL "KiteYards" 59 8 8 true (.object "KiteYards$Flight") := ⟨_, rfl, by decide +kernel, mT (i := 210) (by decide +kernel) rfl, by decide +kernel, by decide +kernel, by decide +kernel⟩
theorem fK_66 : FL "KiteYards" 66 8 9 true (.object "KiteYards$Way") := ⟨_, rfl, by decide +kernel, mT (i := 211) (by decide +kernel) rfl, by decide +kernel, by decide +kernel, by decide +kernel⟩
theorem fK_73 : FL "KiteYards" 73 8 10 true (.object "KiteYards$Best") := ⟨_, rfl, by decide +kernel, mT (i := 212) (by decide +kernel) rfl, by decide +kernel, by decide +kernel, by decide +kernel⟩
theorem fK_80 : FL "KiteYards" 80 8 11 true (.object "KiteYards$Tally") := ⟨_, rfl, by decide +kernel, mT (i := 213) (by decide +kernel) rfl, by decide +kernel, by decide +kernel, by decide +kernel⟩
theorem fM_66 : FL "KiteYardsModel" 66 9 0 false .int := ⟨_, rfl, by decide +kernel, mT (i := 604) (by decide +kernel) rfl, by decide +kernel, by decide +kernel, by decide +kernel⟩
theorem fM_7 : FL "KiteYardsModel" 7 9 1 true (.array .int) := ⟨_, rfl, by decide +kernel, mT (i := 605) (by decide +kernel) rfl, by decide +kernel, by decide +kernel, by decide +kernel⟩
theorem fM_75 : FL "KiteYardsModel" 75 9 2 false .int := ⟨_, rfl, by decide +kernel, mT (i := 606) (by decide +kernel) rfl, by decide +kernel, by decide +kernel, by decide +kernel⟩
theorem fM_78 : FL "KiteYardsModel" 78 9 3 false .int := ⟨_, rfl, by decide +kernel, mT (i := 607) (by decide +kernel) rfl, by decide +kernel, by decide +kernel, by decide +kernel⟩
theorem fM_108 : FL "KiteYardsModel" 108 9 4 false .int := ⟨_, rfl, by decide +kernel, mT (i := 608) (by decide +kernel) rfl, by decide +kernel, by decide +kernel, by decide +kernel⟩
theorem fM_13 : FL "KiteYardsModel" 13 9 5 false .int := ⟨_, rfl, by decide +kernel, mT (i := 609) (by decide +kernel) rfl, by decide +kernel, by decide +kernel, by decide +kernel⟩
theorem fM_17 : FL "KiteYardsModel" 17 9 6 true (.array .int) := ⟨_, rfl, by decide +kernel, mT (i := 610) (by decide +kernel) rfl, by decide +kernel, by decide +kernel, by decide +kernel⟩
theorem fM_97 : FL "KiteYardsModel" 97 9 7 false .int := ⟨_, rfl, by decide +kernel, mT (i := 611) (by decide +kernel) rfl, by decide +kernel, by decide +kernel, by decide +kernel⟩
theorem fM_85 : FL "KiteYardsModel" 85 9 8 false .int := ⟨_, rfl, by decide +kernel, mT (i := 612) (by decide +kernel) rfl, by decide +kernel, by decide +kernel, by decide +kernel⟩
theorem fM_88 : FL "KiteYardsModel" 88 9 9 false .int := ⟨_, rfl, by decide +kernel, mT (i := 613) (by decide +kernel) rfl, by decide +kernel, by decide +kernel, by decide +kernel⟩
theorem fM_91 : FL "KiteYardsModel" 91 9 10 false .int := ⟨_, rfl, by decide +kernel, mT (i := 614) (by decide +kernel) rfl, by decide +kernel, by decide +kernel, by decide +kernel⟩
theorem fM_94 : FL "KiteYardsModel" 94 9 11 false .int := ⟨_, rfl, by decide +kernel, mT (i := 615) (by decide +kernel) rfl, by decide +kernel, by decide +kernel, by decide +kernel⟩
theorem fM_20 : FL "KiteYardsModel" 20 9 12 true (.array .int) := ⟨_, rfl, by decide +kernel, mT (i := 616) (by decide +kernel) rfl, by decide +kernel, by decide +kernel, by decide +kernel⟩
theorem fM_23 : FL "KiteYardsModel" 23 9 13 true (.array .int) := ⟨_, rfl, by decide +kernel, mT (i := 617) (by decide +kernel) rfl, by decide +kernel, by decide +kernel, by decide +kernel⟩
theorem fM_26 : FL "KiteYardsModel" 26 9 14 true (.array .int) := ⟨_, rfl, by decide +kernel, mT (i := 618) (by decide +kernel) rfl, by decide +kernel, by decide +kernel, by decide +kernel⟩
theorem fM_29 : FL "KiteYardsModel" 29 9 15 true (.array .int) := ⟨_, rfl, by decide +kernel, mT (i := 619) (by decide +kernel) rfl, by decide +kernel, by decide +kernel, by decide +kernel⟩
theorem fM_32 : FL "KiteYardsModel" 32 9 16 true (.array .int) := ⟨_, rfl, by decide +kernel, mT (i := 620) (by decide +kernel) rfl, by decide +kernel, by decide +kernel, by decide +kernel⟩
theorem fM_35 : FL "KiteYardsModel" 35 9 17 true (.array .int) := ⟨_, rfl, by decide +kernel, mT (i := 621) (by decide +kernel) rfl, by decide +kernel, by decide +kernel, by decide +kernel⟩
theorem fM_111 : FL "KiteYardsModel" 111 9 18 false .int := ⟨_, rfl, by decide +kernel, mT (i := 622) (by decide +kernel) rfl, by decide +kernel, by decide +kernel, by decide +kernel⟩
theorem fM_38 : FL "KiteYardsModel" 38 9 19 true (.array .int) := ⟨_, rfl, by decide +kernel, mT (i := 623) (by decide +kernel) rfl, by decide +kernel, by decide +kernel, by decide +kernel⟩
theorem fM_41 : FL "KiteYardsModel" 41 9 20 true (.array .boolean) := ⟨_, rfl, by decide +kernel, mT (i := 624) (by decide +kernel) rfl, by decide +kernel, by decide +kernel, by decide +kernel⟩
theorem fM_131 : FL "KiteYardsModel" 131 9 21 false .int := ⟨_, rfl, by decide +kernel, mT (i := 625) (by decide +kernel) rfl, by decide +kernel, by decide +kernel, by decide +kernel⟩
theorem fM_45 : FL "KiteYardsModel" 45 9 22 true (.array .int) := ⟨_, rfl, by decide +kernel, mT (i := 626) (by decide +kernel) rfl, by decide +kernel, by decide +kernel, by decide +kernel⟩
theorem fM_48 : FL "KiteYardsModel" 48 9 23 true (.array .int) := ⟨_, rfl, by decide +kernel, mT (i := 627) (by decide +kernel) rfl, by decide +kernel, by decide +kernel, by decide +kernel⟩
theorem fM_244 : FL "KiteYardsModel" 244 9 24 false .long := ⟨_, rfl, by decide +kernel, mT (i := 628) (by decide +kernel) rfl, by decide +kernel, by decide +kernel, by decide +kernel⟩
theorem fM_51 : FL "KiteYardsModel" 51 9 25 true (.array .int) := ⟨_, rfl, by decide +kernel, mT (i := 629) (by decide +kernel) rfl, by decide +kernel, by decide +kernel, by decide +kernel⟩
theorem fM_54 : FL "KiteYardsModel" 54 9 26 true (.array .int) := ⟨_, rfl, by decide +kernel, mT (i := 630) (by decide +kernel) rfl, by decide +kernel, by decide +kernel, by decide +kernel⟩
theorem fM_57 : FL "KiteYardsModel" 57 9 27 true (.array .int) := ⟨_, rfl, by decide +kernel, mT (i := 631) (by decide +kernel) rfl, by decide +kernel, by decide +kernel, by decide +kernel⟩
theorem fM_60 : FL "KiteYardsModel" 60 9 28 true (.array .int) := ⟨_, rfl, by decide +kernel, mT (i := 632) (by decide +kernel) rfl, by decide +kernel, by decide +kernel, by decide +kernel⟩
theorem fM_114 : FL "KiteYardsModel" 114 9 29 false .int := ⟨_, rfl, by decide +kernel, mT (i := 633) (by decide +kernel) rfl, by decide +kernel, by decide +kernel, by decide +kernel⟩
theorem fM_159 : FL "KiteYardsModel" 159 9 30 false .int := ⟨_, rfl, by decide +kernel, mT (i := 634) (by decide +kernel) rfl, by decide +kernel, by decide +kernel, by decide +kernel⟩
theorem fM_162 : FL "KiteYardsModel" 162 9 31 false .int := ⟨_, rfl, by decide +kernel, mT (i := 635) (by decide +kernel) rfl, by decide +kernel, by decide +kernel, by decide +kernel⟩
theorem fM_212 : FL "KiteYardsModel" 212 9 32 false .int := ⟨_, rfl, by decide +kernel, mT (i := 636) (by decide +kernel) rfl, by decide +kernel, by decide +kernel, by decide +kernel⟩
theorem fM_215 : FL "KiteYardsModel" 215 9 33 false .int := ⟨_, rfl, by decide +kernel, mT (i := 637) (by decide +kernel) rfl, by decide +kernel, by decide +kernel, by decide +kernel⟩
theorem fM_218 : FL "KiteYardsModel" 218 9 34 false .int := ⟨_, rfl, by decide +kernel, mT (i := 638) (by decide +kernel) rfl, by decide +kernel, by decide +kernel, by decide +kernel⟩
theorem fM_224 : FL "KiteYardsModel" 224 9 35 false .int := ⟨_, rfl, by decide +kernel, mT (i := 639) (by decide +kernel) rfl, by decide +kernel, by decide +kernel, by decide +kernel⟩
theorem fM_227 : FL "KiteYardsModel" 227 9 36 false .int := ⟨_, rfl, by decide +kernel, mT (i := 640) (by decide +kernel) rfl, by decide +kernel, by decide +kernel, by decide +kernel⟩
theorem fM_63 : FL "KiteYardsModel" 63 9 37 true (.array .int) := ⟨_, rfl, by decide +kernel, mT (i := 641) (by decide +kernel) rfl, by decide +kernel, by decide +kernel, by decide +kernel⟩
theorem kK_1 : Cond.methodLink "KiteYards" 1 Lib.objectInit ∈ WT := mT (i := 18) (by decide +kernel) rfl
theorem kK_9 : CIN "KiteYards" 9 yText_init := ⟨"KiteYards", nT (i := 23) (by decide +kernel), mT (i := 24) (by decide +kernel) rfl, rfl⟩
theorem kK_18 : CIN "KiteYards" 18 yLine_init := ⟨"KiteYards", nT (i := 38) (by decide +kernel), mT (i := 39) (by decide +kernel) rfl, rfl⟩
theorem kK_25 : CIN "KiteYards" 25 yPast_init := ⟨"KiteYards", nT (i := 93) (by decide +kernel), mT (i := 94) (by decide +kernel) rfl, rfl⟩
theorem kK_30 : CS "KiteYards" 30 yK_newLines := ⟨mT (i := 112) (by decide +kernel) rfl, mT (i := 98) (by decide +kernel) rfl⟩
theorem kK_44 : CIN "KiteYards" 44 ySightings_init := ⟨"KiteYards", nT (i := 115) (by decide +kernel), mT (i := 116) (by decide +kernel) rfl, rfl⟩
theorem kK_58 : CIN "KiteYards" 58 yFlight_init := ⟨"KiteYards", nT (i := 133) (by decide +kernel), mT (i := 134) (by decide +kernel) rfl, rfl⟩
theorem kK_65 : CIN "KiteYards" 65 yWay_init := ⟨"KiteYards", nT (i := 157) (by decide +kernel), mT (i := 158) (by decide +kernel) rfl, rfl⟩
theorem kK_72 : CIN "KiteYards" 72 yBest_init := ⟨"KiteYards", nT (i := 174) (by decide +kernel), mT (i := 175) (by decide +kernel) rfl, rfl⟩
theorem kK_79 : CIN "KiteYards" 79 yTally_init := ⟨"KiteYards", nT (i := 189) (by decide +kernel), mT (i := 190) (by decide +kernel) rfl, rfl⟩
theorem kText_3 : Cond.methodLink "KiteYards$Text" 3 Lib.objectInit ∈ WT := mT (i := 26) (by decide +kernel) rfl
theorem kLine_3 : Cond.methodLink "KiteYards$Line" 3 Lib.objectInit ∈ WT := mT (i := 41) (by decide +kernel) rfl
theorem kPast_3 : Cond.methodLink "KiteYards$Past" 3 Lib.objectInit ∈ WT := mT (i := 96) (by decide +kernel) rfl
theorem kPast_9 : CSN "KiteYards$Past" 9 yK_newLines := ⟨"KiteYards", nT (i := 97) (by decide +kernel), mT (i := 98) (by decide +kernel) rfl⟩
theorem kK_320 : CS "KiteYards" 320 yMath_max := ⟨mT (i := 100) (by decide +kernel) rfl, mT (i := 101) (by decide +kernel) rfl⟩
theorem kSightings_3 : Cond.methodLink "KiteYards$Sightings" 3 Lib.objectInit ∈ WT := mT (i := 118) (by decide +kernel) rfl
theorem kFlight_3 : Cond.methodLink "KiteYards$Flight" 3 Lib.objectInit ∈ WT := mT (i := 136) (by decide +kernel) rfl
theorem kWay_3 : Cond.methodLink "KiteYards$Way" 3 Lib.objectInit ∈ WT := mT (i := 160) (by decide +kernel) rfl
theorem kBest_3 : Cond.methodLink "KiteYards$Best" 3 Lib.objectInit ∈ WT := mT (i := 177) (by decide +kernel) rfl
theorem kTally_3 : Cond.methodLink "KiteYards$Tally" 3 Lib.objectInit ∈ WT := mT (i := 192) (by decide +kernel) rfl
theorem kK_88 : CV "KiteYards" 88 yText_append := ⟨mT (i := 243) (by decide +kernel) rfl, mT (i := 244) (by decide +kernel) rfl, mT (i := 245) (by decide +kernel) rfl⟩
theorem kText_19 : CSN "KiteYards$Text" 19 yK_put := ⟨"KiteYards", nT (i := 247) (by decide +kernel), mT (i := 248) (by decide +kernel) rfl⟩
theorem kK_92 : CV "KiteYards" 92 yText_firstFault := ⟨mT (i := 258) (by decide +kernel) rfl, mT (i := 259) (by decide +kernel) rfl, mT (i := 260) (by decide +kernel) rfl⟩
theorem kText_23 : CSN "KiteYards$Text" 23 yK_at := ⟨"KiteYards", nT (i := 262) (by decide +kernel), mT (i := 263) (by decide +kernel) rfl⟩
theorem kText_27 : CV "KiteYards$Text" 27 yText_fits := ⟨mT (i := 265) (by decide +kernel) rfl, mT (i := 267) (by decide +kernel) rfl, mS (q := (yN yText_fits, _)) 0 rfl⟩
theorem kText_31 : CV "KiteYards$Text" 31 yText_fitsPart := ⟨mT (i := 269) (by decide +kernel) rfl, mT (i := 271) (by decide +kernel) rfl, mS (q := (yN yText_fitsPart, _)) 1 rfl⟩
theorem kK_96 : CV "KiteYards" 96 yText_tell := ⟨mT (i := 277) (by decide +kernel) rfl, mT (i := 278) (by decide +kernel) rfl, mT (i := 279) (by decide +kernel) rfl⟩
theorem kK_100 : CV "KiteYards" 100 yPast_forget := ⟨mT (i := 288) (by decide +kernel) rfl, mT (i := 289) (by decide +kernel) rfl, mT (i := 290) (by decide +kernel) rfl⟩
theorem kK_103 : CV "KiteYards" 103 yK_forgetKept := ⟨mT (i := 292) (by decide +kernel) rfl, mT (i := 294) (by decide +kernel) rfl, mS (q := (yN yK_forgetKept, _)) 3 rfl⟩
theorem kText_34 : CV "KiteYards$Text" 34 yText_figure := ⟨mT (i := 281) (by decide +kernel) rfl, mT (i := 283) (by decide +kernel) rfl, mS (q := (yN yText_figure, _)) 2 rfl⟩
theorem kText_52 : CS "KiteYards$Text" 52 yMath_min := ⟨mT (i := 285) (by decide +kernel) rfl, mT (i := 286) (by decide +kernel) rfl⟩
theorem kK_121 : CV "KiteYards" 121 yLine_yardsFrom := ⟨mT (i := 300) (by decide +kernel) rfl, mT (i := 301) (by decide +kernel) rfl, mT (i := 302) (by decide +kernel) rfl⟩
theorem kK_124 : CV "KiteYards" 124 yFlight_follow := ⟨mT (i := 306) (by decide +kernel) rfl, mT (i := 307) (by decide +kernel) rfl, mT (i := 308) (by decide +kernel) rfl⟩
theorem kLine_28 : CS "KiteYards$Line" 28 yMath_max := ⟨mT (i := 304) (by decide +kernel) rfl, mT (i := 101) (by decide +kernel) rfl⟩
theorem kLine_34 : CSN "KiteYards$Line" 34 yK_at := ⟨"KiteYards", nT (i := 305) (by decide +kernel), mT (i := 263) (by decide +kernel) rfl⟩
theorem kFlight_31 : CSN "KiteYards$Flight" 31 yK_at := ⟨"KiteYards", nT (i := 310) (by decide +kernel), mT (i := 263) (by decide +kernel) rfl⟩
theorem kFlight_38 : CS "KiteYards$Flight" 38 yMath_max := ⟨mT (i := 311) (by decide +kernel) rfl, mT (i := 101) (by decide +kernel) rfl⟩
theorem kFlight_56 : CS "KiteYards$Flight" 56 yMath_abs := ⟨mT (i := 312) (by decide +kernel) rfl, mT (i := 313) (by decide +kernel) rfl⟩
theorem kFlight_63 : CSN "KiteYards$Flight" 63 yK_put := ⟨"KiteYards", nT (i := 315) (by decide +kernel), mT (i := 248) (by decide +kernel) rfl⟩
theorem kK_132 : CV "KiteYards" 132 yLine_has := ⟨mT (i := 320) (by decide +kernel) rfl, mT (i := 321) (by decide +kernel) rfl, mT (i := 322) (by decide +kernel) rfl⟩
theorem kK_140 : CS "KiteYards" 140 yK_at := ⟨mT (i := 324) (by decide +kernel) rfl, mT (i := 263) (by decide +kernel) rfl⟩
theorem kK_156 : CS "KiteYards" 156 yK_within := ⟨mT (i := 329) (by decide +kernel) rfl, mT (i := 330) (by decide +kernel) rfl⟩
theorem kK_160 : CV "KiteYards" 160 yPast_remember := ⟨mT (i := 332) (by decide +kernel) rfl, mT (i := 333) (by decide +kernel) rfl, mT (i := 334) (by decide +kernel) rfl⟩
theorem kK_163 : CS "KiteYards" 163 yK_put := ⟨mT (i := 349) (by decide +kernel) rfl, mT (i := 248) (by decide +kernel) rfl⟩
theorem kPast_23 : CV "KiteYards$Past" 23 yPast_forgetFirst := ⟨mT (i := 336) (by decide +kernel) rfl, mT (i := 338) (by decide +kernel) rfl, mS (q := (yN yPast_forgetFirst, _)) 4 rfl⟩
theorem kPast_26 : CV "KiteYards$Past" 26 yLine_take := ⟨mT (i := 340) (by decide +kernel) rfl, mT (i := 341) (by decide +kernel) rfl, mT (i := 342) (by decide +kernel) rfl⟩
theorem kLine_38 : CV "KiteYards$Line" 38 yLine_takeSome := ⟨mT (i := 344) (by decide +kernel) rfl, mT (i := 345) (by decide +kernel) rfl, mT (i := 346) (by decide +kernel) rfl⟩
theorem kLine_51 : CSN "KiteYards$Line" 51 yK_put := ⟨"KiteYards", nT (i := 348) (by decide +kernel), mT (i := 248) (by decide +kernel) rfl⟩
theorem kK_167 : CS "KiteYards" 167 yK_toldTogether := ⟨mT (i := 362) (by decide +kernel) rfl, mT (i := 363) (by decide +kernel) rfl⟩
theorem kK_171 : CV "KiteYards" 171 yPast_giveBack := ⟨mT (i := 369) (by decide +kernel) rfl, mT (i := 370) (by decide +kernel) rfl, mT (i := 371) (by decide +kernel) rfl⟩
theorem kK_174 : CV "KiteYards" 174 yFlight_views := ⟨mT (i := 377) (by decide +kernel) rfl, mT (i := 378) (by decide +kernel) rfl, mT (i := 379) (by decide +kernel) rfl⟩
theorem kFlight_67 : CV "KiteYards$Flight" 67 yFlight_sight := ⟨mT (i := 381) (by decide +kernel) rfl, mT (i := 383) (by decide +kernel) rfl, mS (q := (yN yFlight_sight, _)) 5 rfl⟩
theorem kK_177 : CS "KiteYards" 177 yK_isFirstOrSecond := ⟨mT (i := 389) (by decide +kernel) rfl, mT (i := 390) (by decide +kernel) rfl⟩
theorem kK_180 : CV "KiteYards" 180 yK_seekYards := ⟨mT (i := 392) (by decide +kernel) rfl, mT (i := 394) (by decide +kernel) rfl, mS (q := (yN yK_seekYards, _)) 6 rfl⟩
theorem kK_252 : CV "KiteYards" 252 yBest_clear := ⟨mT (i := 396) (by decide +kernel) rfl, mT (i := 397) (by decide +kernel) rfl, mT (i := 398) (by decide +kernel) rfl⟩
theorem kK_239 : CV "KiteYards" 239 yLine_take := ⟨mT (i := 400) (by decide +kernel) rfl, mT (i := 341) (by decide +kernel) rfl, mT (i := 342) (by decide +kernel) rfl⟩
theorem kK_255 : CV "KiteYards" 255 yWay_start := ⟨mT (i := 401) (by decide +kernel) rfl, mT (i := 402) (by decide +kernel) rfl, mT (i := 403) (by decide +kernel) rfl⟩
theorem kK_259 : CV "KiteYards" 259 yWay_most := ⟨mT (i := 405) (by decide +kernel) rfl, mT (i := 406) (by decide +kernel) rfl, mT (i := 407) (by decide +kernel) rfl⟩
theorem kK_262 : CV "KiteYards" 262 yWay_sum := ⟨mT (i := 409) (by decide +kernel) rfl, mT (i := 410) (by decide +kernel) rfl, mT (i := 411) (by decide +kernel) rfl⟩
theorem kK_265 : CV "KiteYards" 265 yBest_wants := ⟨mT (i := 414) (by decide +kernel) rfl, mT (i := 415) (by decide +kernel) rfl, mT (i := 416) (by decide +kernel) rfl⟩
theorem kK_268 : CV "KiteYards" 268 yK_letOutByWay := ⟨mT (i := 418) (by decide +kernel) rfl, mT (i := 420) (by decide +kernel) rfl, mS (q := (yN yK_letOutByWay, _)) 7 rfl⟩
theorem kK_272 : CV "KiteYards" 272 yK_trialViews := ⟨mT (i := 422) (by decide +kernel) rfl, mT (i := 424) (by decide +kernel) rfl, mS (q := (yN yK_trialViews, _)) 8 rfl⟩
theorem kK_275 : CV "KiteYards" 275 yWay_number := ⟨mT (i := 426) (by decide +kernel) rfl, mT (i := 427) (by decide +kernel) rfl, mT (i := 428) (by decide +kernel) rfl⟩
theorem kK_277 : CV "KiteYards" 277 yBest_keepThis := ⟨mT (i := 430) (by decide +kernel) rfl, mT (i := 431) (by decide +kernel) rfl, mT (i := 432) (by decide +kernel) rfl⟩
theorem kK_280 : CV "KiteYards" 280 yWay_step := ⟨mT (i := 434) (by decide +kernel) rfl, mT (i := 435) (by decide +kernel) rfl, mT (i := 436) (by decide +kernel) rfl⟩
theorem kWay_22 : CSN "KiteYards$Way" 22 yK_at := ⟨"KiteYards", nT (i := 413) (by decide +kernel), mT (i := 263) (by decide +kernel) rfl⟩
theorem kWay_26 : CSN "KiteYards$Way" 26 yK_put := ⟨"KiteYards", nT (i := 438) (by decide +kernel), mT (i := 248) (by decide +kernel) rfl⟩
theorem kK_190 : CV "KiteYards" 190 yK_seekBridles := ⟨mT (i := 443) (by decide +kernel) rfl, mT (i := 445) (by decide +kernel) rfl, mS (q := (yN yK_seekBridles, _)) 9 rfl⟩
theorem kK_286 : CV "KiteYards" 286 yK_setByWay := ⟨mT (i := 447) (by decide +kernel) rfl, mT (i := 449) (by decide +kernel) rfl, mS (q := (yN yK_setByWay, _)) 10 rfl⟩
theorem kK_193 : CS "KiteYards" 193 yInt_bitCount := ⟨mT (i := 463) (by decide +kernel) rfl, mT (i := 464) (by decide +kernel) rfl⟩
theorem kK_198 : CS "KiteYards" 198 yK_orders := ⟨mT (i := 469) (by decide +kernel) rfl, mT (i := 470) (by decide +kernel) rfl⟩
theorem kK_201 : CV "KiteYards" 201 yK_viewOf := ⟨mT (i := 472) (by decide +kernel) rfl, mT (i := 474) (by decide +kernel) rfl, mS (q := (yN yK_viewOf, _)) 11 rfl⟩
theorem kK_204 : CS "KiteYards" 204 yK_fraction := ⟨mT (i := 482) (by decide +kernel) rfl, mT (i := 483) (by decide +kernel) rfl⟩
theorem kK_289 : CV "KiteYards" 289 yLine_takeSome := ⟨mT (i := 476) (by decide +kernel) rfl, mT (i := 345) (by decide +kernel) rfl, mT (i := 346) (by decide +kernel) rfl⟩
theorem kK_293 : CV "KiteYards" 293 yFlight_viewsWithin := ⟨mT (i := 477) (by decide +kernel) rfl, mT (i := 478) (by decide +kernel) rfl, mT (i := 479) (by decide +kernel) rfl⟩
theorem kFlight_71 : CS "KiteYards$Flight" 71 yMath_min := ⟨mT (i := 481) (by decide +kernel) rfl, mT (i := 286) (by decide +kernel) rfl⟩
theorem kK_309 : CS "KiteYards" 309 yMath_abs := ⟨mT (i := 485) (by decide +kernel) rfl, mT (i := 313) (by decide +kernel) rfl⟩
theorem kK_317 : CS "KiteYards" 317 yK_commonDivisor := ⟨mT (i := 486) (by decide +kernel) rfl, mT (i := 487) (by decide +kernel) rfl⟩
theorem kK_208 : CS "KiteYards" 208 yK_isWord := ⟨mT (i := 493) (by decide +kernel) rfl, mT (i := 494) (by decide +kernel) rfl⟩
theorem kK_211 : CV "KiteYards" 211 yLine_tugsMore := ⟨mT (i := 496) (by decide +kernel) rfl, mT (i := 497) (by decide +kernel) rfl, mT (i := 498) (by decide +kernel) rfl⟩
theorem kK_214 : CS "KiteYards" 214 yK_shifted := ⟨mT (i := 500) (by decide +kernel) rfl, mT (i := 501) (by decide +kernel) rfl⟩
theorem kK_314 : CS "KiteYards" 314 yMath_floorMod := ⟨mT (i := 503) (by decide +kernel) rfl, mT (i := 504) (by decide +kernel) rfl⟩
theorem kK_218 : CS "KiteYards" 218 yK_meetBySlips := ⟨mT (i := 514) (by decide +kernel) rfl, mT (i := 515) (by decide +kernel) rfl⟩
theorem kK_222 : CV "KiteYards" 222 ySightings_add := ⟨mT (i := 521) (by decide +kernel) rfl, mT (i := 522) (by decide +kernel) rfl, mT (i := 523) (by decide +kernel) rfl⟩
theorem kSightings_22 : CSN "KiteYards$Sightings" 22 yK_put := ⟨"KiteYards", nT (i := 525) (by decide +kernel), mT (i := 248) (by decide +kernel) rfl⟩
theorem kK_225 : CV "KiteYards" 225 yK_seekWinds := ⟨mT (i := 534) (by decide +kernel) rfl, mT (i := 536) (by decide +kernel) rfl, mS (q := (yN yK_seekWinds, _)) 12 rfl⟩
theorem kK_296 : CV "KiteYards" 296 yTally_clear := ⟨mT (i := 538) (by decide +kernel) rfl, mT (i := 539) (by decide +kernel) rfl, mT (i := 540) (by decide +kernel) rfl⟩
theorem kK_297 : CV "KiteYards" 297 ySightings_agreeWith := ⟨mT (i := 542) (by decide +kernel) rfl, mT (i := 543) (by decide +kernel) rfl, mT (i := 544) (by decide +kernel) rfl⟩
theorem kK_301 : CV "KiteYards" 301 yTally_add := ⟨mT (i := 547) (by decide +kernel) rfl, mT (i := 548) (by decide +kernel) rfl, mT (i := 549) (by decide +kernel) rfl⟩
theorem kSightings_26 : CSN "KiteYards$Sightings" 26 yK_at := ⟨"KiteYards", nT (i := 546) (by decide +kernel), mT (i := 263) (by decide +kernel) rfl⟩
theorem kK_232 : CV "KiteYards" 232 yK_seekRests := ⟨mT (i := 555) (by decide +kernel) rfl, mT (i := 557) (by decide +kernel) rfl, mS (q := (yN yK_seekRests, _)) 13 rfl⟩
theorem kK_303 : CV "KiteYards" 303 yK_isNearest := ⟨mT (i := 559) (by decide +kernel) rfl, mT (i := 561) (by decide +kernel) rfl, mS (q := (yN yK_isNearest, _)) 14 rfl⟩
theorem kK_306 : CV "KiteYards" 306 yK_distanceBy := ⟨mT (i := 563) (by decide +kernel) rfl, mT (i := 565) (by decide +kernel) rfl, mS (q := (yN yK_distanceBy, _)) 15 rfl⟩
theorem kK_236 : CV "KiteYards" 236 yK_calmIn := ⟨mT (i := 571) (by decide +kernel) rfl, mT (i := 573) (by decide +kernel) rfl, mS (q := (yN yK_calmIn, _)) 16 rfl⟩
theorem kK_248 : CV "KiteYards" 248 yK_slotLine := ⟨mT (i := 590) (by decide +kernel) rfl, mT (i := 592) (by decide +kernel) rfl, mS (q := (yN yK_slotLine, _)) 17 rfl⟩
theorem kM_1 : Cond.methodLink "KiteYardsModel" 1 Lib.objectInit ∈ WT := mT (i := 603) (by decide +kernel) rfl
theorem kM_69 : CS "KiteYardsModel" 69 yM_in := ⟨mT (i := 724) (by decide +kernel) rfl, mT (i := 725) (by decide +kernel) rfl⟩
theorem kM_104 : CV "KiteYardsModel" 104 yM_readString := ⟨mT (i := 735) (by decide +kernel) rfl, mT (i := 737) (by decide +kernel) rfl, mS (q := (yN yM_readString, _)) 18 rfl⟩
theorem kM_100 : CV "KiteYardsModel" 100 yM_readHead := ⟨mT (i := 739) (by decide +kernel) rfl, mT (i := 741) (by decide +kernel) rfl, mS (q := (yN yM_readHead, _)) 19 rfl⟩
theorem kM_81 : CV "KiteYardsModel" 81 yM_figure := ⟨mT (i := 743) (by decide +kernel) rfl, mT (i := 745) (by decide +kernel) rfl, mS (q := (yN yM_figure, _)) 20 rfl⟩
theorem kM_124 : CV "KiteYardsModel" 124 yM_layPage := ⟨mT (i := 755) (by decide +kernel) rfl, mT (i := 757) (by decide +kernel) rfl, mS (q := (yN yM_layPage, _)) 21 rfl⟩
theorem kM_127 : CV "KiteYardsModel" 127 yM_yardsFrom := ⟨mT (i := 766) (by decide +kernel) rfl, mT (i := 768) (by decide +kernel) rfl, mS (q := (yN yM_yardsFrom, _)) 23 rfl⟩
theorem kM_120 : CV "KiteYardsModel" 120 yM_lay := ⟨mT (i := 759) (by decide +kernel) rfl, mT (i := 761) (by decide +kernel) rfl, mS (q := (yN yM_lay, _)) 22 rfl⟩
theorem kM_117 : CS "KiteYardsModel" 117 yM_far := ⟨mT (i := 763) (by decide +kernel) rfl, mT (i := 764) (by decide +kernel) rfl⟩
theorem kM_134 : CV "KiteYardsModel" 134 yM_noKite := ⟨mT (i := 774) (by decide +kernel) rfl, mT (i := 776) (by decide +kernel) rfl, mS (q := (yN yM_noKite, _)) 24 rfl⟩
theorem kM_144 : CV "KiteYardsModel" 144 yM_note := ⟨mT (i := 785) (by decide +kernel) rfl, mT (i := 787) (by decide +kernel) rfl, mS (q := (yN yM_note, _)) 25 rfl⟩
theorem kM_155 : CV "KiteYardsModel" 155 yM_doesSee := ⟨mT (i := 813) (by decide +kernel) rfl, mT (i := 815) (by decide +kernel) rfl, mS (q := (yN yM_doesSee, _)) 26 rfl⟩
theorem kM_171 : CS "KiteYardsModel" 171 yM_noSpot := ⟨mT (i := 821) (by decide +kernel) rfl, mT (i := 822) (by decide +kernel) rfl⟩
theorem kM_175 : CV "KiteYardsModel" 175 yM_findWay := ⟨mT (i := 824) (by decide +kernel) rfl, mT (i := 826) (by decide +kernel) rfl, mS (q := (yN yM_findWay, _)) 27 rfl⟩
theorem kM_165 : CS "KiteYardsModel" 165 yM_power := ⟨mT (i := 828) (by decide +kernel) rfl, mT (i := 829) (by decide +kernel) rfl⟩
theorem kM_168 : CV "KiteYardsModel" 168 yM_begin := ⟨mT (i := 831) (by decide +kernel) rfl, mT (i := 833) (by decide +kernel) rfl, mS (q := (yN yM_begin, _)) 28 rfl⟩
theorem kM_185 : CV "KiteYardsModel" 185 yM_worthOf := ⟨mT (i := 851) (by decide +kernel) rfl, mT (i := 853) (by decide +kernel) rfl, mS (q := (yN yM_worthOf, _)) 29 rfl⟩
theorem kM_179 : CS "KiteYardsModel" 179 yM_has := ⟨mT (i := 855) (by decide +kernel) rfl, mT (i := 856) (by decide +kernel) rfl⟩
theorem kM_188 : CS "KiteYardsModel" 188 yM_many := ⟨mT (i := 858) (by decide +kernel) rfl, mT (i := 859) (by decide +kernel) rfl⟩
theorem kM_191 : CS "KiteYardsModel" 191 yM_orders := ⟨mT (i := 861) (by decide +kernel) rfl, mT (i := 862) (by decide +kernel) rfl⟩
theorem kM_194 : CS "KiteYardsModel" 194 yM_fraction := ⟨mT (i := 864) (by decide +kernel) rfl, mT (i := 865) (by decide +kernel) rfl⟩
theorem kM_182 : CS "KiteYardsModel" 182 yM_divisor := ⟨mT (i := 867) (by decide +kernel) rfl, mT (i := 868) (by decide +kernel) rfl⟩
theorem kM_200 : CS "KiteYardsModel" 200 yM_noWord := ⟨mT (i := 874) (by decide +kernel) rfl, mT (i := 875) (by decide +kernel) rfl⟩
theorem kM_203 : CV "KiteYardsModel" 203 yM_bridles := ⟨mT (i := 878) (by decide +kernel) rfl, mT (i := 880) (by decide +kernel) rfl, mS (q := (yN yM_bridles, _)) 30 rfl⟩
theorem kM_206 : CS "KiteYardsModel" 206 yM_moved := ⟨mT (i := 882) (by decide +kernel) rfl, mT (i := 883) (by decide +kernel) rfl⟩
theorem kM_221 : CV "KiteYardsModel" 221 yM_findWinds := ⟨mT (i := 906) (by decide +kernel) rfl, mT (i := 908) (by decide +kernel) rfl, mS (q := (yN yM_findWinds, _)) 31 rfl⟩
theorem kM_238 : CV "KiteYardsModel" 238 yM_findRests := ⟨mT (i := 916) (by decide +kernel) rfl, mT (i := 918) (by decide +kernel) rfl, mS (q := (yN yM_findRests, _)) 32 rfl⟩
theorem kM_230 : CV "KiteYardsModel" 230 yM_farBy := ⟨mT (i := 920) (by decide +kernel) rfl, mT (i := 922) (by decide +kernel) rfl, mS (q := (yN yM_farBy, _)) 33 rfl⟩
theorem kLaw_9 : CI "KiteYardsLaw" 9 yK_init := ⟨mT (i := 15) (by decide +kernel) rfl, mT (i := 16) (by decide +kernel) rfl, rfl⟩
theorem kLaw_12 : CI "KiteYardsLaw" 12 yM_init := ⟨mT (i := 600) (by decide +kernel) rfl, mT (i := 601) (by decide +kernel) rfl, rfl⟩
theorem kLaw_13 : CV "KiteYardsLaw" 13 yK_write := ⟨mT (i := 239) (by decide +kernel) rfl, mT (i := 240) (by decide +kernel) rfl, mT (i := 241) (by decide +kernel) rfl⟩
theorem kLaw_17 : CV "KiteYardsLaw" 17 yM_write := ⟨mT (i := 719) (by decide +kernel) rfl, mT (i := 720) (by decide +kernel) rfl, mT (i := 721) (by decide +kernel) rfl⟩
theorem kLaw_18 : CV "KiteYardsLaw" 18 yK_wipe := ⟨mT (i := 250) (by decide +kernel) rfl, mT (i := 251) (by decide +kernel) rfl, mT (i := 252) (by decide +kernel) rfl⟩
theorem kLaw_22 : CV "KiteYardsLaw" 22 yM_wipe := ⟨mT (i := 727) (by decide +kernel) rfl, mT (i := 728) (by decide +kernel) rfl, mT (i := 729) (by decide +kernel) rfl⟩
theorem kLaw_23 : CV "KiteYardsLaw" 23 yK_fault := ⟨mT (i := 254) (by decide +kernel) rfl, mT (i := 255) (by decide +kernel) rfl, mT (i := 256) (by decide +kernel) rfl⟩
theorem kLaw_26 : CV "KiteYardsLaw" 26 yM_fault := ⟨mT (i := 731) (by decide +kernel) rfl, mT (i := 732) (by decide +kernel) rfl, mT (i := 733) (by decide +kernel) rfl⟩
theorem kLaw_27 : CV "KiteYardsLaw" 27 yK_fly := ⟨mT (i := 273) (by decide +kernel) rfl, mT (i := 274) (by decide +kernel) rfl, mT (i := 275) (by decide +kernel) rfl⟩
theorem kLaw_30 : CV "KiteYardsLaw" 30 yM_fly := ⟨mT (i := 747) (by decide +kernel) rfl, mT (i := 748) (by decide +kernel) rfl, mT (i := 749) (by decide +kernel) rfl⟩
theorem kLaw_31 : CV "KiteYardsLaw" 31 yK_about := ⟨mT (i := 296) (by decide +kernel) rfl, mT (i := 297) (by decide +kernel) rfl, mT (i := 298) (by decide +kernel) rfl⟩
theorem kLaw_34 : CV "KiteYardsLaw" 34 yM_about := ⟨mT (i := 751) (by decide +kernel) rfl, mT (i := 752) (by decide +kernel) rfl, mT (i := 753) (by decide +kernel) rfl⟩
theorem kLaw_35 : CV "KiteYardsLaw" 35 yK_kite := ⟨mT (i := 316) (by decide +kernel) rfl, mT (i := 317) (by decide +kernel) rfl, mT (i := 318) (by decide +kernel) rfl⟩
theorem kLaw_39 : CV "KiteYardsLaw" 39 yM_kite := ⟨mT (i := 770) (by decide +kernel) rfl, mT (i := 771) (by decide +kernel) rfl, mT (i := 772) (by decide +kernel) rfl⟩
theorem kLaw_40 : CV "KiteYardsLaw" 40 yK_letOut := ⟨mT (i := 325) (by decide +kernel) rfl, mT (i := 326) (by decide +kernel) rfl, mT (i := 327) (by decide +kernel) rfl⟩
theorem kLaw_43 : CV "KiteYardsLaw" 43 yM_letOut := ⟨mT (i := 778) (by decide +kernel) rfl, mT (i := 779) (by decide +kernel) rfl, mT (i := 780) (by decide +kernel) rfl⟩
theorem kLaw_44 : CV "KiteYardsLaw" 44 yK_set := ⟨mT (i := 350) (by decide +kernel) rfl, mT (i := 351) (by decide +kernel) rfl, mT (i := 352) (by decide +kernel) rfl⟩
theorem kLaw_47 : CV "KiteYardsLaw" 47 yM_set := ⟨mT (i := 789) (by decide +kernel) rfl, mT (i := 790) (by decide +kernel) rfl, mT (i := 791) (by decide +kernel) rfl⟩
theorem kLaw_48 : CV "KiteYardsLaw" 48 yK_cut := ⟨mT (i := 354) (by decide +kernel) rfl, mT (i := 355) (by decide +kernel) rfl, mT (i := 356) (by decide +kernel) rfl⟩
theorem kLaw_51 : CV "KiteYardsLaw" 51 yM_cut := ⟨mT (i := 795) (by decide +kernel) rfl, mT (i := 796) (by decide +kernel) rfl, mT (i := 797) (by decide +kernel) rfl⟩
theorem kLaw_52 : CV "KiteYardsLaw" 52 yK_turn := ⟨mT (i := 358) (by decide +kernel) rfl, mT (i := 359) (by decide +kernel) rfl, mT (i := 360) (by decide +kernel) rfl⟩
theorem kLaw_55 : CV "KiteYardsLaw" 55 yM_turn := ⟨mT (i := 799) (by decide +kernel) rfl, mT (i := 800) (by decide +kernel) rfl, mT (i := 801) (by decide +kernel) rfl⟩
theorem kLaw_56 : CV "KiteYardsLaw" 56 yK_undo := ⟨mT (i := 365) (by decide +kernel) rfl, mT (i := 366) (by decide +kernel) rfl, mT (i := 367) (by decide +kernel) rfl⟩
theorem kLaw_59 : CV "KiteYardsLaw" 59 yM_undo := ⟨mT (i := 803) (by decide +kernel) rfl, mT (i := 804) (by decide +kernel) rfl, mT (i := 805) (by decide +kernel) rfl⟩
theorem kLaw_60 : CV "KiteYardsLaw" 60 yK_sees := ⟨mT (i := 373) (by decide +kernel) rfl, mT (i := 374) (by decide +kernel) rfl, mT (i := 375) (by decide +kernel) rfl⟩
theorem kLaw_63 : CV "KiteYardsLaw" 63 yM_sees := ⟨mT (i := 807) (by decide +kernel) rfl, mT (i := 808) (by decide +kernel) rfl, mT (i := 809) (by decide +kernel) rfl⟩
theorem kLaw_64 : CV "KiteYardsLaw" 64 yK_cheapest := ⟨mT (i := 385) (by decide +kernel) rfl, mT (i := 386) (by decide +kernel) rfl, mT (i := 387) (by decide +kernel) rfl⟩
theorem kLaw_67 : CV "KiteYardsLaw" 67 yM_cheapest := ⟨mT (i := 817) (by decide +kernel) rfl, mT (i := 818) (by decide +kernel) rfl, mT (i := 819) (by decide +kernel) rfl⟩
theorem kLaw_68 : CV "KiteYardsLaw" 68 yK_fewest := ⟨mT (i := 439) (by decide +kernel) rfl, mT (i := 440) (by decide +kernel) rfl, mT (i := 441) (by decide +kernel) rfl⟩
theorem kLaw_71 : CV "KiteYardsLaw" 71 yM_fewest := ⟨mT (i := 835) (by decide +kernel) rfl, mT (i := 836) (by decide +kernel) rfl, mT (i := 837) (by decide +kernel) rfl⟩
theorem kLaw_72 : CV "KiteYardsLaw" 72 yK_whereToCut := ⟨mT (i := 451) (by decide +kernel) rfl, mT (i := 452) (by decide +kernel) rfl, mT (i := 453) (by decide +kernel) rfl⟩
theorem kLaw_75 : CV "KiteYardsLaw" 75 yM_whereToCut := ⟨mT (i := 839) (by decide +kernel) rfl, mT (i := 840) (by decide +kernel) rfl, mT (i := 841) (by decide +kernel) rfl⟩
theorem kLaw_76 : CV "KiteYardsLaw" 76 yK_drops := ⟨mT (i := 455) (by decide +kernel) rfl, mT (i := 456) (by decide +kernel) rfl, mT (i := 457) (by decide +kernel) rfl⟩
theorem kLaw_79 : CV "KiteYardsLaw" 79 yM_drops := ⟨mT (i := 843) (by decide +kernel) rfl, mT (i := 844) (by decide +kernel) rfl, mT (i := 845) (by decide +kernel) rfl⟩
theorem kLaw_80 : CV "KiteYardsLaw" 80 yK_share := ⟨mT (i := 459) (by decide +kernel) rfl, mT (i := 460) (by decide +kernel) rfl, mT (i := 461) (by decide +kernel) rfl⟩
theorem kLaw_84 : CV "KiteYardsLaw" 84 yM_share := ⟨mT (i := 847) (by decide +kernel) rfl, mT (i := 848) (by decide +kernel) rfl, mT (i := 849) (by decide +kernel) rfl⟩
theorem kLaw_85 : CV "KiteYardsLaw" 85 yK_arrives := ⟨mT (i := 489) (by decide +kernel) rfl, mT (i := 490) (by decide +kernel) rfl, mT (i := 491) (by decide +kernel) rfl⟩
theorem kLaw_88 : CV "KiteYardsLaw" 88 yM_arrives := ⟨mT (i := 870) (by decide +kernel) rfl, mT (i := 871) (by decide +kernel) rfl, mT (i := 872) (by decide +kernel) rfl⟩
theorem kLaw_89 : CV "KiteYardsLaw" 89 yK_sent := ⟨mT (i := 506) (by decide +kernel) rfl, mT (i := 507) (by decide +kernel) rfl, mT (i := 508) (by decide +kernel) rfl⟩
theorem kLaw_92 : CV "KiteYardsLaw" 92 yM_sent := ⟨mT (i := 885) (by decide +kernel) rfl, mT (i := 886) (by decide +kernel) rfl, mT (i := 887) (by decide +kernel) rfl⟩
theorem kLaw_93 : CV "KiteYardsLaw" 93 yK_taken := ⟨mT (i := 510) (by decide +kernel) rfl, mT (i := 511) (by decide +kernel) rfl, mT (i := 512) (by decide +kernel) rfl⟩
theorem kLaw_97 : CV "KiteYardsLaw" 97 yM_taken := ⟨mT (i := 889) (by decide +kernel) rfl, mT (i := 890) (by decide +kernel) rfl, mT (i := 891) (by decide +kernel) rfl⟩
theorem kLaw_98 : CV "KiteYardsLaw" 98 yK_seeAt := ⟨mT (i := 517) (by decide +kernel) rfl, mT (i := 518) (by decide +kernel) rfl, mT (i := 519) (by decide +kernel) rfl⟩
theorem kLaw_101 : CV "KiteYardsLaw" 101 yM_seeAt := ⟨mT (i := 893) (by decide +kernel) rfl, mT (i := 894) (by decide +kernel) rfl, mT (i := 895) (by decide +kernel) rfl⟩
theorem kLaw_102 : CV "KiteYardsLaw" 102 yK_unsee := ⟨mT (i := 526) (by decide +kernel) rfl, mT (i := 527) (by decide +kernel) rfl, mT (i := 528) (by decide +kernel) rfl⟩
theorem kLaw_105 : CV "KiteYardsLaw" 105 yM_unsee := ⟨mT (i := 898) (by decide +kernel) rfl, mT (i := 899) (by decide +kernel) rfl, mT (i := 900) (by decide +kernel) rfl⟩
theorem kLaw_106 : CV "KiteYardsLaw" 106 yK_winds := ⟨mT (i := 530) (by decide +kernel) rfl, mT (i := 531) (by decide +kernel) rfl, mT (i := 532) (by decide +kernel) rfl⟩
theorem kLaw_109 : CV "KiteYardsLaw" 109 yM_winds := ⟨mT (i := 902) (by decide +kernel) rfl, mT (i := 903) (by decide +kernel) rfl, mT (i := 904) (by decide +kernel) rfl⟩
theorem kLaw_110 : CV "KiteYardsLaw" 110 yK_rests := ⟨mT (i := 551) (by decide +kernel) rfl, mT (i := 552) (by decide +kernel) rfl, mT (i := 553) (by decide +kernel) rfl⟩
theorem kLaw_114 : CV "KiteYardsLaw" 114 yM_rests := ⟨mT (i := 910) (by decide +kernel) rfl, mT (i := 911) (by decide +kernel) rfl, mT (i := 912) (by decide +kernel) rfl⟩
theorem kLaw_115 : CV "KiteYardsLaw" 115 yK_gusts := ⟨mT (i := 567) (by decide +kernel) rfl, mT (i := 568) (by decide +kernel) rfl, mT (i := 569) (by decide +kernel) rfl⟩
theorem kLaw_119 : CV "KiteYardsLaw" 119 yM_gusts := ⟨mT (i := 924) (by decide +kernel) rfl, mT (i := 925) (by decide +kernel) rfl, mT (i := 926) (by decide +kernel) rfl⟩
theorem kLaw_122 : CV "KiteYardsLaw" 122 yK_seed := ⟨mT (i := 575) (by decide +kernel) rfl, mT (i := 576) (by decide +kernel) rfl, mT (i := 577) (by decide +kernel) rfl⟩
theorem kLaw_126 : CV "KiteYardsLaw" 126 yM_seed := ⟨mT (i := 929) (by decide +kernel) rfl, mT (i := 930) (by decide +kernel) rfl, mT (i := 931) (by decide +kernel) rfl⟩
theorem kLaw_127 : CV "KiteYardsLaw" 127 yK_afternoons := ⟨mT (i := 579) (by decide +kernel) rfl, mT (i := 580) (by decide +kernel) rfl, mT (i := 581) (by decide +kernel) rfl⟩
theorem kLaw_130 : CV "KiteYardsLaw" 130 yM_afternoons := ⟨mT (i := 933) (by decide +kernel) rfl, mT (i := 934) (by decide +kernel) rfl, mT (i := 935) (by decide +kernel) rfl⟩
theorem kLaw_131 : CV "KiteYardsLaw" 131 yK_keep := ⟨mT (i := 586) (by decide +kernel) rfl, mT (i := 587) (by decide +kernel) rfl, mT (i := 588) (by decide +kernel) rfl⟩
theorem kLaw_134 : CV "KiteYardsLaw" 134 yM_keep := ⟨mT (i := 940) (by decide +kernel) rfl, mT (i := 941) (by decide +kernel) rfl, mT (i := 942) (by decide +kernel) rfl⟩
theorem kLaw_135 : CV "KiteYardsLaw" 135 yK_again := ⟨mT (i := 594) (by decide +kernel) rfl, mT (i := 595) (by decide +kernel) rfl, mT (i := 596) (by decide +kernel) rfl⟩
theorem kLaw_138 : CV "KiteYardsLaw" 138 yM_again := ⟨mT (i := 944) (by decide +kernel) rfl, mT (i := 945) (by decide +kernel) rfl, mT (i := 946) (by decide +kernel) rfl⟩
theorem qInt_265 : Cond.constant "java/lang/Integer" 265 (1431655765) ∈ WT := mT (i := 466) (by decide +kernel) rfl
theorem qInt_266 : Cond.constant "java/lang/Integer" 266 (858993459) ∈ WT := mT (i := 467) (by decide +kernel) rfl
theorem qInt_267 : Cond.constant "java/lang/Integer" 267 (252645135) ∈ WT := mT (i := 468) (by decide +kernel) rfl
theorem qK_242 : Cond.constantLong "KiteYards" 242 (6364136223846793005) ∈ WT := mT (i := 583) (by decide +kernel) rfl
theorem qK_244 : Cond.constantLong "KiteYards" 244 (1442695040888963407) ∈ WT := mT (i := 584) (by decide +kernel) rfl
theorem qK_246 : Cond.constantLong "KiteYards" 246 (25) ∈ WT := mT (i := 585) (by decide +kernel) rfl
theorem qM_73 : Cond.constantLong "KiteYardsModel" 73 (255) ∈ WT := mT (i := 723) (by decide +kernel) rfl
theorem qM_138 : Cond.constantLong "KiteYardsModel" 138 (-9) ∈ WT := mT (i := 782) (by decide +kernel) rfl
theorem qM_140 : Cond.constantLong "KiteYardsModel" 140 (9) ∈ WT := mT (i := 783) (by decide +kernel) rfl
theorem qM_142 : Cond.constantLong "KiteYardsModel" 142 (30) ∈ WT := mT (i := 784) (by decide +kernel) rfl
theorem qM_147 : Cond.constantLong "KiteYardsModel" 147 (-2) ∈ WT := mT (i := 793) (by decide +kernel) rfl
theorem qM_149 : Cond.constantLong "KiteYardsModel" 149 (2) ∈ WT := mT (i := 794) (by decide +kernel) rfl
theorem qM_151 : Cond.constantLong "KiteYardsModel" 151 (-100) ∈ WT := mT (i := 811) (by decide +kernel) rfl
theorem qM_153 : Cond.constantLong "KiteYardsModel" 153 (100) ∈ WT := mT (i := 812) (by decide +kernel) rfl
theorem qM_198 : Cond.constantLong "KiteYardsModel" 198 (6) ∈ WT := mT (i := 877) (by decide +kernel) rfl
theorem qM_210 : Cond.constantLong "KiteYardsModel" 210 (-30) ∈ WT := mT (i := 897) (by decide +kernel) rfl
theorem qM_234 : Cond.constantLong "KiteYardsModel" 234 (-20) ∈ WT := mT (i := 914) (by decide +kernel) rfl
theorem qM_236 : Cond.constantLong "KiteYardsModel" 236 (20) ∈ WT := mT (i := 915) (by decide +kernel) rfl
theorem qM_242 : Cond.constantLong "KiteYardsModel" 242 (10) ∈ WT := mT (i := 928) (by decide +kernel) rfl
theorem qM_248 : Cond.constantLong "KiteYardsModel" 248 (6364136223846793005) ∈ WT := mT (i := 937) (by decide +kernel) rfl
theorem qM_250 : Cond.constantLong "KiteYardsModel" 250 (1442695040888963407) ∈ WT := mT (i := 938) (by decide +kernel) rfl
theorem qM_252 : Cond.constantLong "KiteYardsModel" 252 (25) ∈ WT := mT (i := 939) (by decide +kernel) rfl
theorem qLaw_120 : Cond.constantLong "KiteYardsLaw" 120 (4294967295) ∈ WT := mT (i := 948) (by decide +kernel) rfl
theorem wLaw_7 : NW "KiteYardsLaw" 7 8 [.null, .null, .null, .null, .null, .null, .long 0, .null, .null, .null, .null, .null] 12 := ⟨_, rfl, by decide +kernel, rfl, mT (i := 13) (by decide +kernel) rfl, mT (i := 14) (by decide +kernel) rfl, mT (i := 1) (by decide +kernel) rfl⟩
theorem wK_7 : NW "KiteYards" 7 6 [.null, .int 0] 2 := ⟨_, rfl, by decide +kernel, rfl, mT (i := 21) (by decide +kernel) rfl, mT (i := 22) (by decide +kernel) rfl, mT (i := 2) (by decide +kernel) rfl⟩
theorem wK_16 : NW "KiteYards" 16 2 [.int 0, .int 0, .int 0, .int 0, .int 0, .null, .null, .null] 8 := ⟨_, rfl, by decide +kernel, rfl, mT (i := 36) (by decide +kernel) rfl, mT (i := 37) (by decide +kernel) rfl, mT (i := 3) (by decide +kernel) rfl⟩
theorem wK_23 : NW "KiteYards" 23 3 [.null, .int 0] 2 := ⟨_, rfl, by decide +kernel, rfl, mT (i := 91) (by decide +kernel) rfl, mT (i := 92) (by decide +kernel) rfl, mT (i := 4) (by decide +kernel) rfl⟩
theorem wK_42 : NW "KiteYards" 42 4 [.null, .null, .int 0] 3 := ⟨_, rfl, by decide +kernel, rfl, mT (i := 113) (by decide +kernel) rfl, mT (i := 114) (by decide +kernel) rfl, mT (i := 6) (by decide +kernel) rfl⟩
theorem wK_56 : NW "KiteYards" 56 1 [.null, .null, .int 0, .int 0] 4 := ⟨_, rfl, by decide +kernel, rfl, mT (i := 131) (by decide +kernel) rfl, mT (i := 132) (by decide +kernel) rfl, mT (i := 7) (by decide +kernel) rfl⟩
theorem wK_63 : NW "KiteYards" 63 7 [.null, .int 0, .int 0] 3 := ⟨_, rfl, by decide +kernel, rfl, mT (i := 155) (by decide +kernel) rfl, mT (i := 156) (by decide +kernel) rfl, mT (i := 8) (by decide +kernel) rfl⟩
theorem wK_70 : NW "KiteYards" 70 0 [.int 0, .int 0] 2 := ⟨_, rfl, by decide +kernel, rfl, mT (i := 172) (by decide +kernel) rfl, mT (i := 173) (by decide +kernel) rfl, mT (i := 9) (by decide +kernel) rfl⟩
theorem wK_77 : NW "KiteYards" 77 5 [.int 0, .int 0] 2 := ⟨_, rfl, by decide +kernel, rfl, mT (i := 187) (by decide +kernel) rfl, mT (i := 188) (by decide +kernel) rfl, mT (i := 10) (by decide +kernel) rfl⟩
theorem wLaw_10 : NW "KiteYardsLaw" 10 9 [.int 0, .null, .int 0, .int 0, .int 0, .int 0, .null, .int 0, .int 0, .int 0, .int 0, .int 0, .null, .null, .null, .null, .null, .null, .int 0, .null, .null, .int 0, .null, .null, .long 0, .null, .null, .null, .null, .int 0, .int 0, .int 0, .int 0, .int 0, .int 0, .int 0, .int 0, .null] 38 := ⟨_, rfl, by decide +kernel, rfl, mT (i := 598) (by decide +kernel) rfl, mT (i := 599) (by decide +kernel) rfl, mT (i := 11) (by decide +kernel) rfl⟩
theorem aI : Cond.arrayClass .int ∈ WT := mT (i := 35) (by decide +kernel) rfl
theorem aZ : Cond.arrayClass .boolean ∈ WT := mT (i := 130) (by decide +kernel) rfl
