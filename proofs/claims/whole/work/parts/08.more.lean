theorem inX0 : ∀ w ∈ u_ws RX0 TX0 2, w ∈ tb := List.forall_mem_cons.mpr ⟨m_1_206, List.forall_mem_cons.mpr ⟨m_1_208, fun _ h => absurd h List.not_mem_nil⟩⟩
theorem inX1 : ∀ w ∈ u_ws RX1 TX1 10, w ∈ tb := List.forall_mem_cons.mpr ⟨m_1_132, List.forall_mem_cons.mpr ⟨m_1_134, List.forall_mem_cons.mpr ⟨m_1_136, List.forall_mem_cons.mpr ⟨m_1_138, List.forall_mem_cons.mpr ⟨m_1_140, List.forall_mem_cons.mpr ⟨m_1_142, List.forall_mem_cons.mpr ⟨m_1_144, List.forall_mem_cons.mpr ⟨m_1_146, List.forall_mem_cons.mpr ⟨m_1_148, List.forall_mem_cons.mpr ⟨m_1_150, fun _ h => absurd h List.not_mem_nil⟩⟩⟩⟩⟩⟩⟩⟩⟩⟩
theorem inX2 : ∀ w ∈ u_ws RX2 TX2 6, w ∈ tb := List.forall_mem_cons.mpr ⟨m_1_169, List.forall_mem_cons.mpr ⟨m_1_171, List.forall_mem_cons.mpr ⟨m_1_173, List.forall_mem_cons.mpr ⟨m_1_175, List.forall_mem_cons.mpr ⟨m_1_177, List.forall_mem_cons.mpr ⟨m_1_179, fun _ h => absurd h List.not_mem_nil⟩⟩⟩⟩⟩⟩
theorem inX3 : ∀ w ∈ u_ws RX3 TX3 2, w ∈ tb := List.forall_mem_cons.mpr ⟨m_1_192, List.forall_mem_cons.mpr ⟨m_1_194, fun _ h => absurd h List.not_mem_nil⟩⟩
theorem inX4 : ∀ w ∈ u_ws RX4 TX4 3, w ∈ tb := List.forall_mem_cons.mpr ⟨m_1_223, List.forall_mem_cons.mpr ⟨m_1_225, List.forall_mem_cons.mpr ⟨m_1_227, fun _ h => absurd h List.not_mem_nil⟩⟩⟩
theorem inX5 : ∀ w ∈ u_ws RX5 TX5 7, w ∈ tb := List.forall_mem_cons.mpr ⟨m_1_56, List.forall_mem_cons.mpr ⟨m_1_58, List.forall_mem_cons.mpr ⟨m_1_60, List.forall_mem_cons.mpr ⟨m_1_62, List.forall_mem_cons.mpr ⟨m_1_64, List.forall_mem_cons.mpr ⟨m_1_66, List.forall_mem_cons.mpr ⟨m_1_68, fun _ h => absurd h List.not_mem_nil⟩⟩⟩⟩⟩⟩⟩
theorem inX6 : ∀ w ∈ u_ws RX6 TX6 6, w ∈ tb := List.forall_mem_cons.mpr ⟨m_1_94, List.forall_mem_cons.mpr ⟨m_1_96, List.forall_mem_cons.mpr ⟨m_1_98, List.forall_mem_cons.mpr ⟨m_1_100, List.forall_mem_cons.mpr ⟨m_1_102, List.forall_mem_cons.mpr ⟨m_1_104, fun _ h => absurd h List.not_mem_nil⟩⟩⟩⟩⟩⟩
theorem inX7 : ∀ w ∈ u_ws RX7 TX7 9, w ∈ tb := List.forall_mem_cons.mpr ⟨m_2_0, List.forall_mem_cons.mpr ⟨m_2_2, List.forall_mem_cons.mpr ⟨m_2_4, List.forall_mem_cons.mpr ⟨m_2_6, List.forall_mem_cons.mpr ⟨m_2_8, List.forall_mem_cons.mpr ⟨m_2_10, List.forall_mem_cons.mpr ⟨m_2_12, List.forall_mem_cons.mpr ⟨m_2_14, List.forall_mem_cons.mpr ⟨m_2_16, fun _ h => absurd h List.not_mem_nil⟩⟩⟩⟩⟩⟩⟩⟩⟩
theorem inX8 : ∀ w ∈ u_ws RX8 TX8 47, w ∈ tb := List.forall_mem_cons.mpr ⟨m_4_221, List.forall_mem_cons.mpr ⟨m_4_223, List.forall_mem_cons.mpr ⟨m_4_225, List.forall_mem_cons.mpr ⟨m_4_227, List.forall_mem_cons.mpr ⟨m_4_229, List.forall_mem_cons.mpr ⟨m_4_231, List.forall_mem_cons.mpr ⟨m_4_233, List.forall_mem_cons.mpr ⟨m_4_235, List.forall_mem_cons.mpr ⟨m_4_237, List.forall_mem_cons.mpr ⟨m_4_239, List.forall_mem_cons.mpr ⟨m_5_1, List.forall_mem_cons.mpr ⟨m_5_3, List.forall_mem_cons.mpr ⟨m_5_5, List.forall_mem_cons.mpr ⟨m_5_7, List.forall_mem_cons.mpr ⟨m_5_9, List.forall_mem_cons.mpr ⟨m_5_11, List.forall_mem_cons.mpr ⟨m_5_13, List.forall_mem_cons.mpr ⟨m_5_15, List.forall_mem_cons.mpr ⟨m_5_17, List.forall_mem_cons.mpr ⟨m_5_19, List.forall_mem_cons.mpr ⟨m_5_21, List.forall_mem_cons.mpr ⟨m_5_23, List.forall_mem_cons.mpr ⟨m_5_25, List.forall_mem_cons.mpr ⟨m_5_27, List.forall_mem_cons.mpr ⟨m_5_29, List.forall_mem_cons.mpr ⟨m_5_31, List.forall_mem_cons.mpr ⟨m_5_33, List.forall_mem_cons.mpr ⟨m_5_35, List.forall_mem_cons.mpr ⟨m_5_37, List.forall_mem_cons.mpr ⟨m_5_39, List.forall_mem_cons.mpr ⟨m_5_41, List.forall_mem_cons.mpr ⟨m_5_43, List.forall_mem_cons.mpr ⟨m_5_45, List.forall_mem_cons.mpr ⟨m_5_47, List.forall_mem_cons.mpr ⟨m_5_49, List.forall_mem_cons.mpr ⟨m_5_51, List.forall_mem_cons.mpr ⟨m_5_53, List.forall_mem_cons.mpr ⟨m_5_55, List.forall_mem_cons.mpr ⟨m_5_57, List.forall_mem_cons.mpr ⟨m_5_59, List.forall_mem_cons.mpr ⟨m_5_61, List.forall_mem_cons.mpr ⟨m_5_63, List.forall_mem_cons.mpr ⟨m_5_65, List.forall_mem_cons.mpr ⟨m_5_67, List.forall_mem_cons.mpr ⟨m_5_69, List.forall_mem_cons.mpr ⟨m_5_71, List.forall_mem_cons.mpr ⟨m_5_73, fun _ h => absurd h List.not_mem_nil⟩⟩⟩⟩⟩⟩⟩⟩⟩⟩⟩⟩⟩⟩⟩⟩⟩⟩⟩⟩⟩⟩⟩⟩⟩⟩⟩⟩⟩⟩⟩⟩⟩⟩⟩⟩⟩⟩⟩⟩⟩⟩⟩⟩⟩⟩⟩
theorem wi_X0_init : Cond.instanceMethod yX0_init ∈ tb ∧ Cond.initialized (yX0_init).cls ∈ tb ∧ Cond.code yX0_init cX0_init 1 none ∈ tb := ⟨m_1_200, m_1_7, m_1_201⟩
theorem wi_X0_forget : fWI yX0_forget cX0_forget 1 none := ⟨m_4_118, m_4_119, m_1_7, m_4_120⟩
theorem wi_X0_tell : fWI yX0_tell cX0_tell 2 (some .int) := ⟨m_4_153, m_4_154, m_1_7, m_4_155⟩
theorem wi_X0_start : fWI yX0_start cX0_start 4 (some .int) := ⟨m_4_122, m_4_123, m_1_7, m_4_124⟩
theorem wi_X0_run : fWI yX0_run cX0_run 8 (some .int) := ⟨m_4_127, m_0_29, m_1_7, m_4_128⟩
theorem wi_X0_answerOf : fWI yX0_answerOf cX0_answerOf 8 (some .int) := ⟨m_4_146, m_0_31, m_1_7, m_4_147⟩
theorem wi_X0_nextWithBody : fWS yX0_nextWithBody cX0_nextWithBody 4 (some .int) := ⟨m_4_130, m_1_7, m_4_131⟩
theorem wi_X0_bodyOf : fWS yX0_bodyOf cX0_bodyOf 3 (some .int) := ⟨m_4_134, m_1_7, m_4_135⟩
theorem wi_X0_begin : fWI yX0_begin cX0_begin 2 none := ⟨m_4_142, m_0_30, m_1_7, m_4_143⟩
theorem wi_X1_init : Cond.instanceMethod yX1_init ∈ tb ∧ Cond.initialized (yX1_init).cls ∈ tb ∧ Cond.code yX1_init cX1_init 2 none ∈ tb := ⟨m_1_30, m_1_2, m_1_31⟩
theorem wi_X1_become : fWI yX1_become cX1_become 3 none := ⟨m_2_225, m_2_226, m_1_2, m_2_227⟩
theorem wi_X1_hasThing : fWI yX1_hasThing cX1_hasThing 2 (some .boolean) := ⟨m_2_159, m_2_160, m_1_2, m_2_161⟩
theorem wi_X1_hasWaiter : fWI yX1_hasWaiter cX1_hasWaiter 2 (some .boolean) := ⟨m_2_90, m_2_91, m_1_2, m_2_92⟩
theorem wi_X1_hasRoomForThing : fWI yX1_hasRoomForThing cX1_hasRoomForThing 1 (some .boolean) := ⟨m_2_125, m_2_126, m_1_2, m_2_127⟩
theorem wi_X1_hasRoomForWaiter : fWI yX1_hasRoomForWaiter cX1_hasRoomForWaiter 1 (some .boolean) := ⟨m_2_138, m_2_139, m_1_2, m_2_140⟩
theorem wi_X1_addThing : fWI yX1_addThing cX1_addThing 9 (some .int) := ⟨m_2_129, m_2_130, m_1_2, m_2_131⟩
theorem wi_X1_addWaiter : fWI yX1_addWaiter cX1_addWaiter 7 (some .int) := ⟨m_2_142, m_2_143, m_1_2, m_2_144⟩
theorem wi_X1_gainBy : fWI yX1_gainBy cX1_gainBy 8 (some .int) := ⟨m_3_141, m_3_142, m_1_2, m_3_143⟩
theorem wi_X1_stopQuarter : fWI yX1_stopQuarter cX1_stopQuarter 8 (some .int) := ⟨m_3_135, m_3_136, m_1_2, m_3_137⟩
theorem wi_X1_bestGain : fWI yX1_bestGain cX1_bestGain 4 (some .int) := ⟨m_3_148, m_3_149, m_1_2, m_3_150⟩
theorem wi_X1_bestWaiter : fWI yX1_bestWaiter cX1_bestWaiter 6 (some .int) := ⟨m_3_157, m_3_158, m_1_2, m_3_159⟩
theorem wi_X1_thingsSeen : fWI yX1_thingsSeen cX1_thingsSeen 5 (some .int) := ⟨m_3_170, m_3_171, m_1_2, m_3_172⟩
theorem wi_X1_cornersWithSight : fWI yX1_cornersWithSight cX1_cornersWithSight 4 (some .int) := ⟨m_3_166, m_3_167, m_1_2, m_3_168⟩
theorem wi_X1_bestStand : fWI yX1_bestStand cX1_bestStand 6 (some .int) := ⟨m_3_233, m_3_234, m_1_2, m_3_235⟩
theorem wi_X1_worthOf : fWI yX1_worthOf cX1_worthOf 4 (some .int) := ⟨m_3_238, m_0_23, m_1_2, m_3_239⟩
theorem wi_X1_fewestPosts : fWI yX1_fewestPosts cX1_fewestPosts 6 (some .int) := ⟨m_3_213, m_3_214, m_1_2, m_3_215⟩
theorem wi_X1_seenFromPosts : fWI yX1_seenFromPosts cX1_seenFromPosts 4 (some .int) := ⟨m_3_224, m_0_22, m_1_2, m_3_225⟩
theorem wi_X1_worthMet : fWI yX1_worthMet cX1_worthMet 4 (some .int) := ⟨m_4_26, m_4_27, m_1_2, m_4_28⟩
theorem wi_X1_thingsToRunFor : fWI yX1_thingsToRunFor cX1_thingsToRunFor 5 (some .int) := ⟨m_4_13, m_4_14, m_1_2, m_4_15⟩
theorem wi_X1_worthiestInNeed : fWI yX1_worthiestInNeed cX1_worthiestInNeed 6 (some .int) := ⟨m_4_18, m_0_24, m_1_2, m_4_19⟩
theorem wi_X1_thingsIn : fWI yX1_thingsIn cX1_thingsIn 4 (some .int) := ⟨m_4_40, m_4_41, m_1_2, m_4_42⟩
theorem wi_X1_fullestQuarter : fWI yX1_fullestQuarter cX1_fullestQuarter 5 (some .int) := ⟨m_4_53, m_4_54, m_1_2, m_4_55⟩
theorem wi_X1_mayBeTold : fWI yX1_mayBeTold cX1_mayBeTold 3 (some .boolean) := ⟨m_4_66, m_4_67, m_1_2, m_4_68⟩
theorem wi_X1_isMetAsTold : fWI yX1_isMetAsTold cX1_isMetAsTold 2 (some .boolean) := ⟨m_4_84, m_4_85, m_1_2, m_4_86⟩
theorem wi_X1_worthAsTold : fWI yX1_worthAsTold cX1_worthAsTold 2 (some .int) := ⟨m_4_89, m_4_90, m_1_2, m_4_91⟩
theorem wi_X1_passDay : fWI yX1_passDay cX1_passDay 4 none := ⟨m_4_101, m_4_102, m_1_2, m_4_103⟩
theorem wi_X1_draw : fWI yX1_draw cX1_draw 2 (some .int) := ⟨m_4_106, m_0_28, m_1_2, m_4_107⟩
theorem wi_X2_init : Cond.instanceMethod yX2_init ∈ tb ∧ Cond.initialized (yX2_init).cls ∈ tb ∧ Cond.code yX2_init cX2_init 1 none ∈ tb := ⟨m_1_156, m_1_5, m_1_157⟩
theorem wi_X2_readFault : fWI yX2_readFault cX2_readFault 4 (some .int) := ⟨m_2_221, m_2_222, m_1_5, m_2_223⟩
theorem wi_X2_readItem : fWI yX2_readItem cX2_readItem 1 none := ⟨m_3_3, m_0_7, m_1_5, m_3_4⟩
theorem wi_X2_readThing : fWI yX2_readThing cX2_readThing 8 none := ⟨m_3_11, m_0_9, m_1_5, m_3_12⟩
theorem wi_X2_readWaiter : fWI yX2_readWaiter cX2_readWaiter 6 none := ⟨m_3_91, m_0_16, m_1_5, m_3_92⟩
theorem wi_X2_readMoves : fWI yX2_readMoves cX2_readMoves 3 none := ⟨m_3_98, m_0_17, m_1_5, m_3_99⟩
theorem wi_X2_readHope : fWI yX2_readHope cX2_readHope 2 none := ⟨m_3_104, m_0_18, m_1_5, m_3_105⟩
theorem wi_X2_readWord : fWI yX2_readWord cX2_readWord 5 none := ⟨m_3_17, m_0_10, m_1_5, m_3_18⟩
theorem wi_X2_letter : fWI yX2_letter cX2_letter 1 (some .int) := ⟨m_3_7, m_0_8, m_1_5, m_3_8⟩
theorem wi_X2_readSign : fWI yX2_readSign cX2_readSign 2 none := ⟨m_3_69, m_0_11, m_1_5, m_3_70⟩
theorem wi_X2_readNumber : fWI yX2_readNumber cX2_readNumber 5 (some .int) := ⟨m_3_77, m_0_13, m_1_5, m_3_78⟩
theorem wi_X2_isAtDigit : fWI yX2_isAtDigit cX2_isAtDigit 1 (some .boolean) := ⟨m_3_81, m_0_14, m_1_5, m_3_82⟩
theorem wi_X2_readDigit : fWI yX2_readDigit cX2_readDigit 2 (some .int) := ⟨m_3_86, m_0_15, m_1_5, m_3_87⟩
theorem wi_X2_failAt : fWI yX2_failAt cX2_failAt 2 (some .int) := ⟨m_3_73, m_0_12, m_1_5, m_3_74⟩
theorem wi_X3_init : Cond.instanceMethod yX3_init ∈ tb ∧ Cond.initialized (yX3_init).cls ∈ tb ∧ Cond.code yX3_init cX3_init 1 none ∈ tb := ⟨m_1_185, m_1_6, m_1_186⟩
theorem wi_X3_layOut : fWI yX3_layOut cX3_layOut 5 none := ⟨m_3_183, m_3_184, m_1_6, m_3_185⟩
theorem wi_X3_leastCost : fWI yX3_leastCost cX3_leastCost 2 (some .int) := ⟨m_3_200, m_3_201, m_1_6, m_3_202⟩
theorem wi_X3_shareOf : fWI yX3_shareOf cX3_shareOf 6 (some .int) := ⟨m_3_204, m_3_205, m_1_6, m_3_206⟩
theorem wi_X3_firstBest : fWI yX3_firstBest cX3_firstBest 7 (some .int) := ⟨m_3_191, m_0_20, m_1_6, m_3_192⟩
theorem wi_X3_payWith : fWI yX3_payWith cX3_payWith 5 (some .int) := ⟨m_3_196, m_0_21, m_1_6, m_3_197⟩
theorem wi_X4_init : Cond.instanceMethod yX4_init ∈ tb ∧ Cond.initialized (yX4_init).cls ∈ tb ∧ Cond.code yX4_init cX4_init 1 none ∈ tb := ⟨m_1_213, m_1_8, m_1_214⟩
theorem wi_X4_isRow : fWI yX4_isRow cX4_isRow 1 (some .boolean) := ⟨m_2_46, m_2_47, m_1_8, m_2_48⟩
theorem wi_X4_layRow : fWI yX4_layRow cX4_layRow 4 none := ⟨m_2_34, m_2_35, m_1_8, m_2_36⟩
theorem wi_X4_hold : fWI yX4_hold cX4_hold 2 none := ⟨m_2_94, m_2_95, m_1_8, m_2_96⟩
theorem wi_X4_hasElement : fWI yX4_hasElement cX4_hasElement 2 (some .boolean) := ⟨m_2_50, m_2_51, m_1_8, m_2_52⟩
theorem wi_X4_hasPart : fWI yX4_hasPart cX4_hasPart 3 (some .boolean) := ⟨m_2_71, m_2_72, m_1_8, m_2_73⟩
theorem wi_X4_put : fWI yX4_put cX4_put 4 none := ⟨m_2_54, m_2_55, m_1_8, m_2_56⟩
theorem wi_X4_lowestBits : fWI yX4_lowestBits cX4_lowestBits 3 (some .long) := ⟨m_2_60, m_0_2, m_1_8, m_2_61⟩
theorem wi_X4_at : fWI yX4_at cX4_at 2 (some .long) := ⟨m_2_82, m_2_83, m_1_8, m_2_84⟩
theorem wi_X4_number : fWI yX4_number cX4_number 2 (some .int) := ⟨m_2_237, m_2_238, m_1_8, m_2_239⟩
theorem wi_X5_init : Cond.instanceMethod yX5_init ∈ tb ∧ Cond.initialized (yX5_init).cls ∈ tb ∧ Cond.code yX5_init cX5_init 1 none ∈ tb := ⟨m_1_39, m_1_3, m_1_40⟩
theorem wi_X5_become : fWI yX5_become cX5_become 2 none := ⟨m_2_229, m_2_230, m_1_3, m_2_231⟩
theorem wi_X5_quarters : fWI yX5_quarters cX5_quarters 1 (some .int) := ⟨m_2_171, m_2_172, m_1_3, m_2_173⟩
theorem wi_X5_cases : fWI yX5_cases cX5_cases 1 (some .int) := ⟨m_2_167, m_2_168, m_1_3, m_2_169⟩
theorem wi_X5_casesBy : fWI yX5_casesBy cX5_casesBy 2 (some .int) := ⟨m_3_121, m_3_122, m_1_3, m_3_123⟩
theorem wi_X5_canComeIn : fWI yX5_canComeIn cX5_canComeIn 2 (some .boolean) := ⟨m_4_44, m_4_45, m_1_3, m_4_46⟩
theorem wi_X5_mayHave : fWI yX5_mayHave cX5_mayHave 2 (some .boolean) := ⟨m_4_71, m_4_72, m_1_3, m_4_73⟩
theorem wi_X5_isMet : fWI yX5_isMet cX5_isMet 2 (some .boolean) := ⟨m_4_5, m_4_6, m_1_3, m_4_7⟩
theorem wi_X5_needsRunner : fWI yX5_needsRunner cX5_needsRunner 1 (some .boolean) := ⟨m_4_21, m_4_22, m_1_3, m_4_23⟩
theorem wi_X5_tell : fWI yX5_tell cX5_tell 2 (some .int) := ⟨m_2_163, m_2_164, m_1_3, m_2_165⟩
theorem wi_X6_init : Cond.instanceMethod yX6_init ∈ tb ∧ Cond.initialized (yX6_init).cls ∈ tb ∧ Cond.code yX6_init cX6_init 2 none ∈ tb := ⟨m_1_74, m_1_4, m_1_75⟩
theorem wi_X6_become : fWI yX6_become cX6_become 2 none := ⟨m_2_233, m_2_234, m_1_4, m_2_235⟩
theorem wi_X6_quartersHeld : fWI yX6_quartersHeld cX6_quartersHeld 2 (some .int) := ⟨m_2_183, m_2_184, m_1_4, m_2_185⟩
theorem wi_X6_wouldHold : fWI yX6_wouldHold cX6_wouldHold 2 (some .int) := ⟨m_2_188, m_0_4, m_1_4, m_2_189⟩
theorem wi_X6_wageFor : fWI yX6_wageFor cX6_wageFor 3 (some .int) := ⟨m_2_205, m_2_206, m_1_4, m_2_207⟩
theorem wi_X6_masterWage : fWI yX6_masterWage cX6_masterWage 2 (some .int) := ⟨m_2_210, m_0_5, m_1_4, m_2_211⟩
theorem wi_X6_loverWage : fWI yX6_loverWage cX6_loverWage 2 (some .int) := ⟨m_2_214, m_0_6, m_1_4, m_2_215⟩
theorem wi_X6_sight : fWI yX6_sight cX6_sight 1 (some .int) := ⟨m_2_197, m_2_198, m_1_4, m_2_199⟩
theorem wi_X6_wordAs : fWI yX6_wordAs cX6_wordAs 2 (some .int) := ⟨m_2_114, m_2_115, m_1_4, m_2_116⟩
theorem wi_X6_tell : fWI yX6_tell cX6_tell 3 (some .int) := ⟨m_2_179, m_2_180, m_1_4, m_2_181⟩
theorem wi_X7_init : Cond.instanceMethod yX7_init ∈ tb ∧ Cond.initialized (yX7_init).cls ∈ tb ∧ Cond.code yX7_init cX7_init 2 none ∈ tb := ⟨m_1_20, m_1_1, m_1_21⟩
theorem wi_X7_row : fWI yX7_row cX7_row 4 (some .int) := ⟨m_2_20, m_2_21, m_1_1, m_2_22⟩
theorem wi_X7_set : fWI yX7_set cX7_set 6 (some .int) := ⟨m_2_38, m_2_39, m_1_1, m_2_40⟩
theorem wi_X7_copy : fWI yX7_copy cX7_copy 7 (some .int) := ⟨m_2_63, m_2_64, m_1_1, m_2_65⟩
theorem wi_X7_element : fWI yX7_element cX7_element 3 (some .long) := ⟨m_2_78, m_2_79, m_1_1, m_2_80⟩
theorem wi_X7_show : fWI yX7_show cX7_show 3 (some .int) := ⟨m_2_86, m_2_87, m_1_1, m_2_88⟩
theorem wi_X7_holds : fWI yX7_holds cX7_holds 2 (some .int) := ⟨m_2_98, m_2_99, m_1_1, m_2_100⟩
theorem wi_X7_says : fWI yX7_says cX7_says 5 (some .int) := ⟨m_2_102, m_2_103, m_1_1, m_2_104⟩
theorem wi_X7_thing : fWI yX7_thing cX7_thing 10 (some .int) := ⟨m_2_118, m_2_119, m_1_1, m_2_120⟩
theorem wi_X7_waiter : fWI yX7_waiter cX7_waiter 7 (some .int) := ⟨m_2_134, m_2_135, m_1_1, m_2_136⟩
theorem wi_X7_move : fWI yX7_move cX7_move 4 (some .int) := ⟨m_2_147, m_2_148, m_1_1, m_2_149⟩
theorem wi_X7_ask : fWI yX7_ask cX7_ask 3 (some .int) := ⟨m_2_151, m_2_152, m_1_1, m_2_153⟩
theorem wi_X7_thingOf : fWI yX7_thingOf cX7_thingOf 3 (some .int) := ⟨m_2_155, m_2_156, m_1_1, m_2_157⟩
theorem wi_X7_waiterOf : fWI yX7_waiterOf cX7_waiterOf 3 (some .int) := ⟨m_2_175, m_2_176, m_1_1, m_2_177⟩
theorem wi_X7_cost : fWI yX7_cost cX7_cost 3 (some .int) := ⟨m_2_201, m_2_202, m_1_1, m_2_203⟩
theorem wi_X7_guild : fWI yX7_guild cX7_guild 3 (some .int) := ⟨m_2_217, m_2_218, m_1_1, m_2_219⟩
theorem wi_X7_fault : fWI yX7_fault cX7_fault 1 (some .int) := ⟨m_3_110, m_3_111, m_1_1, m_3_112⟩
theorem wi_X7_by : fWI yX7_by cX7_by 3 (some .int) := ⟨m_3_114, m_3_115, m_1_1, m_3_116⟩
theorem wi_X7_stop : fWI yX7_stop cX7_stop 6 (some .int) := ⟨m_3_127, m_3_128, m_1_1, m_3_129⟩
theorem wi_X7_best : fWI yX7_best cX7_best 2 (some .int) := ⟨m_3_153, m_3_154, m_1_1, m_3_155⟩
theorem wi_X7_lookouts : fWI yX7_lookouts cX7_lookouts 2 (some .int) := ⟨m_3_162, m_3_163, m_1_1, m_3_164⟩
theorem wi_X7_rota : fWI yX7_rota cX7_rota 3 (some .int) := ⟨m_3_178, m_3_179, m_1_1, m_3_180⟩
theorem wi_X7_posts : fWI yX7_posts cX7_posts 3 (some .int) := ⟨m_3_209, m_3_210, m_1_1, m_3_211⟩
theorem wi_X7_seen : fWI yX7_seen cX7_seen 4 (some .int) := ⟨m_3_228, m_3_229, m_1_1, m_3_230⟩
theorem wi_X7_met : fWI yX7_met cX7_met 3 (some .int) := ⟨m_4_1, m_4_2, m_1_1, m_4_3⟩
theorem wi_X7_runners : fWI yX7_runners cX7_runners 4 (some .int) := ⟨m_4_9, m_4_10, m_1_1, m_4_11⟩
theorem wi_X7_left : fWI yX7_left cX7_left 8 (some .int) := ⟨m_4_31, m_4_32, m_1_1, m_4_33⟩
theorem wi_X7_await : fWI yX7_await cX7_await 2 (some .int) := ⟨m_4_49, m_4_50, m_1_1, m_4_51⟩
theorem wi_X7_judge : fWI yX7_judge cX7_judge 4 (some .int) := ⟨m_4_58, m_4_59, m_1_1, m_4_60⟩
theorem wi_X7_behind : fWI yX7_behind cX7_behind 10 (some .int) := ⟨m_4_76, m_4_77, m_1_1, m_4_78⟩
theorem wi_X7_done : fWI yX7_done cX7_done 6 (some .int) := ⟨m_4_93, m_4_94, m_1_1, m_4_95⟩
theorem wi_X7_days : fWI yX7_days cX7_days 3 (some .int) := ⟨m_4_97, m_4_98, m_1_1, m_4_99⟩
theorem wi_X7_seed : fWI yX7_seed cX7_seed 3 (some .int) := ⟨m_4_110, m_4_111, m_1_1, m_4_112⟩
theorem wi_X7_act : fWI yX7_act cX7_act 4 (some .int) := ⟨m_4_114, m_4_115, m_1_1, m_4_116⟩
theorem wi_X7_trace : fWI yX7_trace cX7_trace 2 (some .int) := ⟨m_4_149, m_4_150, m_1_1, m_4_151⟩
theorem wi_X7_image : fWI yX7_image cX7_image 1 (some .int) := ⟨m_4_157, m_4_158, m_1_1, m_4_159⟩
theorem wi_X7_restore : fWI yX7_restore cX7_restore 3 (some .int) := ⟨m_4_161, m_4_162, m_1_1, m_4_163⟩
theorem wi_X7_status : fWI yX7_status cX7_status 2 (some .int) := ⟨m_4_165, m_4_166, m_1_1, m_4_167⟩
theorem wi_X7_refuse : fWI yX7_refuse cX7_refuse 3 (some .int) := ⟨m_2_31, m_0_0, m_1_1, m_2_32⟩
theorem wi_X7_refuseApart : fWI yX7_refuseApart cX7_refuseApart 2 (some .int) := ⟨m_3_132, m_0_19, m_1_1, m_3_133⟩
theorem wi_X7_rowRefusal : fWI yX7_rowRefusal cX7_rowRefusal 2 (some .int) := ⟨m_2_43, m_0_1, m_1_1, m_2_44⟩
theorem wi_X7_twoRowsRefusal : fWI yX7_twoRowsRefusal cX7_twoRowsRefusal 5 (some .int) := ⟨m_2_68, m_0_3, m_1_1, m_2_69⟩
theorem wi_X7_toldRefusal : fWI yX7_toldRefusal cX7_toldRefusal 6 (some .int) := ⟨m_4_36, m_0_25, m_1_1, m_4_37⟩
theorem wi_X7_dayRefusal : fWI yX7_dayRefusal cX7_dayRefusal 5 (some .int) := ⟨m_4_81, m_0_27, m_1_1, m_4_82⟩
theorem wi_X7_firstWrong : fWI yX7_firstWrong cX7_firstWrong 7 (some .int) := ⟨m_4_63, m_0_26, m_1_1, m_4_64⟩
theorem wi_X7_within : fWS yX7_within cX7_within 3 (some .boolean) := ⟨m_2_27, m_1_1, m_2_28⟩
theorem wi_X7_isShelf : fWS yX7_isShelf cX7_isShelf 1 (some .boolean) := ⟨m_2_24, m_1_1, m_2_25⟩
theorem wi_X7_isKind : fWS yX7_isKind cX7_isKind 1 (some .boolean) := ⟨m_2_106, m_1_1, m_2_107⟩
theorem wi_X7_isCorner : fWS yX7_isCorner cX7_isCorner 1 (some .boolean) := ⟨m_2_122, m_1_1, m_2_123⟩
theorem wi_X7_isQuarter : fWS yX7_isQuarter cX7_isQuarter 1 (some .boolean) := ⟨m_3_118, m_1_1, m_3_119⟩
theorem wi_X7_isUnder : fWS yX7_isUnder cX7_isUnder 4 (some .boolean) := ⟨m_2_109, m_1_1, m_2_110⟩
theorem wi_X8_init : Cond.instanceMethod yX8_init ∈ tb ∧ Cond.initialized (yX8_init).cls ∈ tb ∧ Cond.code yX8_init cX8_init 1 none ∈ tb := ⟨m_4_171, m_1_9, m_4_172⟩
theorem wi_X8_no : fWI yX8_no cX8_no 2 (some .int) := ⟨m_5_86, m_0_33, m_1_9, m_5_87⟩
theorem wi_X8_noTen : fWI yX8_noTen cX8_noTen 2 (some .int) := ⟨m_5_238, m_0_54, m_1_9, m_5_239⟩
theorem wi_X8_isShelf : fWI yX8_isShelf cX8_isShelf 2 (some .boolean) := ⟨m_5_82, m_0_32, m_1_9, m_5_83⟩
theorem wi_X8_isWaiter : fWI yX8_isWaiter cX8_isWaiter 2 (some .boolean) := ⟨m_5_106, m_0_34, m_1_9, m_5_107⟩
theorem wi_X8_isThing : fWI yX8_isThing cX8_isThing 2 (some .boolean) := ⟨m_5_150, m_0_38, m_1_9, m_5_151⟩
theorem wi_X8_isFrom : fWI yX8_isFrom cX8_isFrom 4 (some .boolean) := ⟨m_5_122, m_0_35, m_1_9, m_5_123⟩
theorem wi_X8_row : fWI yX8_row cX8_row 5 (some .int) := ⟨m_5_77, m_5_78, m_1_9, m_5_79⟩
theorem wi_X8_set : fWI yX8_set cX8_set 5 (some .int) := ⟨m_5_89, m_5_90, m_1_9, m_5_91⟩
theorem wi_X8_copy : fWI yX8_copy cX8_copy 7 (some .int) := ⟨m_5_93, m_5_94, m_1_9, m_5_95⟩
theorem wi_X8_element : fWI yX8_element cX8_element 3 (some .long) := ⟨m_5_97, m_5_98, m_1_9, m_5_99⟩
theorem wi_X8_show : fWI yX8_show cX8_show 3 (some .int) := ⟨m_5_101, m_5_102, m_1_9, m_5_103⟩
theorem wi_X8_holds : fWI yX8_holds cX8_holds 2 (some .int) := ⟨m_5_109, m_5_110, m_1_9, m_5_111⟩
theorem wi_X8_says : fWI yX8_says cX8_says 6 (some .int) := ⟨m_5_113, m_5_114, m_1_9, m_5_115⟩
theorem wi_X8_wanted : fWI yX8_wanted cX8_wanted 2 (some .int) := ⟨m_5_174, m_0_42, m_1_9, m_5_175⟩
theorem wi_X8_intAt : fWI yX8_intAt cX8_intAt 3 (some .int) := ⟨m_6_58, m_0_61, m_1_9, m_6_59⟩
theorem wi_X8_addsThing : fWI yX8_addsThing cX8_addsThing 8 (some .int) := ⟨m_5_126, m_0_36, m_1_9, m_5_127⟩
theorem wi_X8_addsWaiter : fWI yX8_addsWaiter cX8_addsWaiter 6 (some .int) := ⟨m_5_134, m_0_37, m_1_9, m_5_135⟩
theorem wi_X8_thing : fWI yX8_thing cX8_thing 8 (some .int) := ⟨m_5_117, m_5_118, m_1_9, m_5_119⟩
theorem wi_X8_waiter : fWI yX8_waiter cX8_waiter 6 (some .int) := ⟨m_5_129, m_5_130, m_1_9, m_5_131⟩
theorem wi_X8_move : fWI yX8_move cX8_move 4 (some .int) := ⟨m_5_137, m_5_138, m_1_9, m_5_139⟩
theorem wi_X8_ask : fWI yX8_ask cX8_ask 3 (some .int) := ⟨m_5_141, m_5_142, m_1_9, m_5_143⟩
theorem wi_X8_cases : fWI yX8_cases cX8_cases 2 (some .int) := ⟨m_5_154, m_0_39, m_1_9, m_5_155⟩
theorem wi_X8_thingOf : fWI yX8_thingOf cX8_thingOf 3 (some .int) := ⟨m_5_145, m_5_146, m_1_9, m_5_147⟩
theorem wi_X8_waiterOf : fWI yX8_waiterOf cX8_waiterOf 3 (some .int) := ⟨m_5_157, m_5_158, m_1_9, m_5_159⟩
theorem wi_X8_wrong : fWI yX8_wrong cX8_wrong 2 (some .boolean) := ⟨m_5_194, m_0_47, m_1_9, m_5_195⟩
theorem wi_X8_stands : fWI yX8_stands cX8_stands 4 (some .boolean) := ⟨m_5_190, m_0_46, m_1_9, m_5_191⟩
theorem wi_X8_word : fWI yX8_word cX8_word 6 (some .int) := ⟨m_5_198, m_0_48, m_1_9, m_5_199⟩
theorem wi_X8_isDigit : fWI yX8_isDigit cX8_isDigit 1 (some .boolean) := ⟨m_5_206, m_0_50, m_1_9, m_5_207⟩
theorem wi_X8_reads : fWI yX8_reads cX8_reads 2 (some .boolean) := ⟨m_5_202, m_0_49, m_1_9, m_5_203⟩
theorem wi_X8_isSo : fWI yX8_isSo cX8_isSo 3 (some .boolean) := ⟨m_5_210, m_0_51, m_1_9, m_5_211⟩
theorem wi_X8_item : fWI yX8_item cX8_item 4 (some .boolean) := ⟨m_5_186, m_0_45, m_1_9, m_5_187⟩
theorem wi_X8_carries : fWI yX8_carries cX8_carries 7 (some .int) := ⟨m_5_182, m_0_44, m_1_9, m_5_183⟩
theorem wi_X8_all : fWI yX8_all cX8_all 4 none := ⟨m_5_178, m_0_43, m_1_9, m_5_179⟩
theorem wi_X8_guild : fWI yX8_guild cX8_guild 5 (some .int) := ⟨m_5_169, m_5_170, m_1_9, m_5_171⟩
theorem wi_X8_fault : fWI yX8_fault cX8_fault 1 (some .int) := ⟨m_5_213, m_5_214, m_1_9, m_5_215⟩
theorem wi_X8_holding : fWI yX8_holding cX8_holding 4 (some .int) := ⟨m_5_162, m_0_40, m_1_9, m_5_163⟩
theorem wi_X8_sees : fWI yX8_sees cX8_sees 2 (some .int) := ⟨m_5_166, m_0_41, m_1_9, m_5_167⟩
theorem wi_X8_costs : fWI yX8_costs cX8_costs 6 (some .int) := ⟨m_5_222, m_0_52, m_1_9, m_5_223⟩
theorem wi_X8_comesBy : fWI yX8_comesBy cX8_comesBy 3 (some .int) := ⟨m_5_230, m_0_53, m_1_9, m_5_231⟩
theorem wi_X8_cost : fWI yX8_cost cX8_cost 3 (some .int) := ⟨m_5_217, m_5_218, m_1_9, m_5_219⟩
theorem wi_X8_by : fWI yX8_by cX8_by 3 (some .int) := ⟨m_5_225, m_5_226, m_1_9, m_5_227⟩
theorem wi_X8_stops : fWI yX8_stops cX8_stops 7 (some .int) := ⟨m_6_2, m_0_55, m_1_9, m_6_3⟩
theorem wi_X8_stop : fWI yX8_stop cX8_stop 5 (some .int) := ⟨m_5_233, m_5_234, m_1_9, m_5_235⟩
theorem wi_X8_best : fWI yX8_best cX8_best 5 (some .int) := ⟨m_6_5, m_6_6, m_1_9, m_6_7⟩
theorem wi_X8_lays : fWI yX8_lays cX8_lays 7 none := ⟨m_6_14, m_0_56, m_1_9, m_6_15⟩
theorem wi_X8_rota : fWI yX8_rota cX8_rota 7 (some .int) := ⟨m_6_9, m_6_10, m_1_9, m_6_11⟩
theorem wi_X8_seenFrom : fWI yX8_seenFrom cX8_seenFrom 6 (some .int) := ⟨m_6_22, m_0_57, m_1_9, m_6_23⟩
theorem wi_X8_many : fWI yX8_many cX8_many 4 (some .int) := ⟨m_6_26, m_0_58, m_1_9, m_6_27⟩
theorem wi_X8_worthOf : fWI yX8_worthOf cX8_worthOf 4 (some .int) := ⟨m_6_34, m_0_59, m_1_9, m_6_35⟩
theorem wi_X8_posts : fWI yX8_posts cX8_posts 6 (some .int) := ⟨m_6_17, m_6_18, m_1_9, m_6_19⟩
theorem wi_X8_seen : fWI yX8_seen cX8_seen 5 (some .int) := ⟨m_6_29, m_6_30, m_1_9, m_6_31⟩
theorem wi_X8_lookouts : fWI yX8_lookouts cX8_lookouts 4 (some .int) := ⟨m_6_37, m_6_38, m_1_9, m_6_39⟩
theorem wi_X8_isMet : fWI yX8_isMet cX8_isMet 3 (some .boolean) := ⟨m_6_46, m_0_60, m_1_9, m_6_47⟩
theorem wi_X8_met : fWI yX8_met cX8_met 3 (some .int) := ⟨m_6_41, m_6_42, m_1_9, m_6_43⟩
theorem wi_X8_runners : fWI yX8_runners cX8_runners 7 (some .int) := ⟨m_6_49, m_6_50, m_1_9, m_6_51⟩
theorem wi_X8_mayCome : fWI yX8_mayCome cX8_mayCome 3 (some .boolean) := ⟨m_6_62, m_0_62, m_1_9, m_6_63⟩
theorem wi_X8_left : fWI yX8_left cX8_left 8 (some .int) := ⟨m_6_53, m_6_54, m_1_9, m_6_55⟩
theorem wi_X8_awaited : fWI yX8_awaited cX8_awaited 4 (some .int) := ⟨m_6_70, m_0_63, m_1_9, m_6_71⟩
theorem wi_X8_await : fWI yX8_await cX8_await 4 (some .int) := ⟨m_6_65, m_6_66, m_1_9, m_6_67⟩
theorem wi_X8_wrongIn : fWI yX8_wrongIn cX8_wrongIn 8 (some .int) := ⟨m_6_82, m_0_65, m_1_9, m_6_83⟩
theorem wi_X8_barsOfDay : fWI yX8_barsOfDay cX8_barsOfDay 4 (some .int) := ⟨m_6_78, m_0_64, m_1_9, m_6_79⟩
theorem wi_X8_judge : fWI yX8_judge cX8_judge 4 (some .int) := ⟨m_6_73, m_6_74, m_1_9, m_6_75⟩
theorem wi_X8_behind : fWI yX8_behind cX8_behind 5 (some .int) := ⟨m_6_85, m_6_86, m_1_9, m_6_87⟩
theorem wi_X8_done : fWI yX8_done cX8_done 4 (some .int) := ⟨m_6_89, m_6_90, m_1_9, m_6_91⟩
theorem wi_X8_draw : fWI yX8_draw cX8_draw 2 (some .int) := ⟨m_6_98, m_0_66, m_1_9, m_6_99⟩
theorem wi_X8_days : fWI yX8_days cX8_days 5 (some .int) := ⟨m_6_93, m_6_94, m_1_9, m_6_95⟩
theorem wi_X8_seed : fWI yX8_seed cX8_seed 3 (some .int) := ⟨m_6_102, m_6_103, m_1_9, m_6_104⟩
theorem wi_X8_body : fWI yX8_body cX8_body 2 none := ⟨m_6_115, m_0_68, m_1_9, m_6_116⟩
theorem wi_X8_waiting : fWI yX8_waiting cX8_waiting 8 (some .int) := ⟨m_6_111, m_0_67, m_1_9, m_6_112⟩
theorem wi_X8_looking : fWI yX8_looking cX8_looking 7 (some .int) := ⟨m_6_119, m_0_69, m_1_9, m_6_120⟩
theorem wi_X8_sending : fWI yX8_sending cX8_sending 6 (some .int) := ⟨m_6_123, m_0_70, m_1_9, m_6_124⟩
theorem wi_X8_act : fWI yX8_act cX8_act 4 (some .int) := ⟨m_6_106, m_6_107, m_1_9, m_6_108⟩
theorem wi_X8_trace : fWI yX8_trace cX8_trace 2 (some .int) := ⟨m_6_126, m_6_127, m_1_9, m_6_128⟩
theorem wi_X8_image : fWI yX8_image cX8_image 1 (some .int) := ⟨m_6_130, m_6_131, m_1_9, m_6_132⟩
theorem wi_X8_restore : fWI yX8_restore cX8_restore 2 (some .int) := ⟨m_6_134, m_6_135, m_1_9, m_6_136⟩
theorem wi_X8_status : fWI yX8_status cX8_status 2 (some .int) := ⟨m_6_138, m_6_139, m_1_9, m_6_140⟩
theorem wi_J6_bitCount_0f7a4 : fWS yJ6_bitCount_0f7a4 cJ6_bitCount_0f7a4 1 (some .int) := ⟨m_3_217, m_1_16, m_3_218⟩
theorem wi_J9_abs_0f7a4 : fWS yJ9_abs_0f7a4 cJ9_abs_0f7a4 1 (some .int) := ⟨m_3_174, m_1_11, m_3_175⟩
theorem wi_J9_max_7cf53 : fWS yJ9_max_7cf53 cJ9_max_7cf53 2 (some .int) := ⟨m_2_191, m_1_11, m_2_192⟩
theorem wi_J9_min_7cf53 : fWS yJ9_min_7cf53 cJ9_min_7cf53 2 (some .int) := ⟨m_2_194, m_1_11, m_2_195⟩
theorem wi_J0_length_8abf5 : fWI yJ0_length_8abf5 cJ0_length_8abf5 1 (some .int) := ⟨m_3_20, m_3_21, m_1_12, m_3_22⟩
theorem wi_J0_charAt_5068e : fWI yJ0_charAt_5068e cJ0_charAt_5068e 2 (some .char) := ⟨m_3_30, m_3_31, m_1_12, m_3_32⟩
theorem wi_J0_coder_7d493 : fWI yJ0_coder_7d493 cJ0_coder_7d493 1 (some .byte) := ⟨m_3_24, m_3_25, m_1_12, m_3_26⟩
theorem wi_J0_isLatin1_aae02 : fWI yJ0_isLatin1_aae02 cJ0_isLatin1_aae02 1 (some .boolean) := ⟨m_3_34, m_3_35, m_1_12, m_3_36⟩
theorem wi_J0_checkIndex_df160 : fWS yJ0_checkIndex_df160 cJ0_checkIndex_df160 2 none := ⟨m_3_41, m_1_12, m_3_42⟩
theorem wi_J1_charAt_3b067 : fWS yJ1_charAt_3b067 cJ1_charAt_3b067 2 (some .char) := ⟨m_3_38, m_1_13, m_3_39⟩
theorem wi_J2_getChar_3b067 : fWS yJ2_getChar_3b067 cJ2_getChar_3b067 2 (some .char) := ⟨m_3_59, m_1_15, m_3_60⟩
theorem wi_J2_length_9d52b : fWS yJ2_length_9d52b cJ2_length_9d52b 1 (some .int) := ⟨m_3_55, m_1_15, m_3_56⟩
theorem wi_J2_charAt_3b067 : fWS yJ2_charAt_3b067 cJ2_charAt_3b067 2 (some .char) := ⟨m_3_49, m_1_15, m_3_50⟩
theorem wi_J2_checkIndex_2214a : fWS yJ2_checkIndex_2214a cJ2_checkIndex_2214a 2 none := ⟨m_3_52, m_1_15, m_3_53⟩
theorem wi_J3_checkIndex_8e157 : fWS yJ3_checkIndex_8e157 cJ3_checkIndex_8e157 3 (some .int) := ⟨m_3_46, m_1_14, m_3_47⟩
/-! facts of the numbering -/
theorem sh_le {k : Nat} (c : Nat) (h : fsh k = c) (hc : c < 99) : k < 115 := fsh_lt h hc
theorem sh_all {P : Nat → Prop} (h : ∀ k, k < 115 → P k) {k c : Nat} (hk : fsh k = c) (hc : c < 99) : P k := h k (fsh_lt hk hc)
theorem sh_g1 {g : Nat} (h : fsh g = 1) : fsh (g + 1) = 12 := (show ∀ k, k < 115 → fsh k = 1 → fsh (k + 1) = 12 by decide +kernel) g (fsh_lt h (by decide)) h
theorem sh_g2 {g : Nat} (h : fsh g = 1) : fsh (g + 2) = 13 := (show ∀ k, k < 115 → fsh k = 1 → fsh (k + 2) = 13 by decide +kernel) g (fsh_lt h (by decide)) h
theorem sh_g3 {g : Nat} (h : fsh g = 1) : fsh (g + 3) = 9 := (show ∀ k, k < 115 → fsh k = 1 → fsh (k + 3) = 9 by decide +kernel) g (fsh_lt h (by decide)) h
theorem ln_g1 {g : Nat} (h : fsh g = 1) : fln (g + 1) = 8 := (show ∀ k, k < 115 → fsh k = 1 → fln (k + 1) = 8 by decide +kernel) g (fsh_lt h (by decide)) h
theorem ln_g2 {g : Nat} (h : fsh g = 1) : fln (g + 2) = 6 := (show ∀ k, k < 115 → fsh k = 1 → fln (k + 2) = 6 by decide +kernel) g (fsh_lt h (by decide)) h
theorem ln_g3 {g : Nat} (h : fsh g = 1) : fln (g + 3) = 6 := (show ∀ k, k < 115 → fsh k = 1 → fln (k + 3) = 6 by decide +kernel) g (fsh_lt h (by decide)) h
theorem sh_gt {g t : Nat} (h : fsh g = 1) (ht : t < 8) : fsh (g + 4 + t) = 5 := (show ∀ k, k < 115 → fsh k = 1 → ∀ t, t < 8 → fsh (k + 4 + t) = 5 by decide +kernel) g (fsh_lt h (by decide)) h t ht
theorem sh_gw {g t : Nat} (h : fsh g = 1) (ht : t < 6) : fsh (g + 12 + t) = 6 := (show ∀ k, k < 115 → fsh k = 1 → ∀ t, t < 6 → fsh (k + 12 + t) = 6 by decide +kernel) g (fsh_lt h (by decide)) h t ht
theorem sh_el {k : Nat} (h : fsh k = 4) : fsh (k + 8) = 10 := (show ∀ k, k < 115 → fsh k = 4 → fsh (k + 8) = 10 by decide +kernel) k (fsh_lt h (by decide)) h
theorem ln_el {k : Nat} (h : fsh k = 4) : fln (k + 8) = 160 := (show ∀ k, k < 115 → fsh k = 4 → fln (k + 8) = 160 by decide +kernel) k (fsh_lt h (by decide)) h
theorem sh_sh {t : Nat} (ht : t < 8) : fsh (2 + t) = 4 := (show ∀ t, t < 8 → fsh (2 + t) = 4 by decide +kernel) t ht
theorem sh_row {t : Nat} (ht : t < 7) : fsh (76 + t) = 9 := (show ∀ t, t < 7 → fsh (76 + t) = 9 by decide +kernel) t ht
theorem ln_row {t : Nat} (ht : t < 7) : fln (76 + t) = 25 := (show ∀ t, t < 7 → fln (76 + t) = 25 by decide +kernel) t ht
/-! truth values as ints -/
def bI (b : Bool) : Int32 := if b then 1 else 0
theorem bIf0 {b : Bool} (h : bI b = 0) : b = false := by cases b <;> simp_all [bI]
theorem bIf1 {b : Bool} (h : ¬ bI b = 0) : b = true := by cases b <;> simp_all [bI]
theorem bI0 {P : Prop} {d : Decidable P} (h : bI (@decide P d) = 0) : ¬ P := of_decide_eq_false (bIf0 h)
theorem bI1 {P : Prop} {d : Decidable P} (h : ¬ bI (@decide P d) = 0) : P := of_decide_eq_true (bIf1 h)
theorem bIt {P : Prop} {d : Decidable P} (h : P) : bI (@decide P d) = 1 := by simp [bI, h]
theorem bIe {P : Prop} {d : Decidable P} (h : ¬ P) : bI (@decide P d) = 0 := by simp [bI, h]
theorem narrow_bI (b : Bool) : narrow .boolean (.int (bI b)) = .int (bI b) := by cases b <;> rfl
def ush (a b : Int32) : Int32 := (a.toUInt32 >>> (b.toUInt32 &&& Int32.toUInt32 31)).toInt32

