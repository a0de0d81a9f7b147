theorem hdV_X0_clear : yX0_clear.cls = RX0 ∧ yX0_clear.cls ≠ "java/lang/invoke/MethodHandle" ∧ yX0_clear.cls ≠ "java/lang/invoke/VarHandle" ∧ (parseMethodDescriptor yX0_clear.desc).map (fun d => d.parameters.length) = some 0 := by decide +kernel
theorem hdS_X11_entry : yX11_entry.cls ≠ "java/lang/invoke/MethodHandle" ∧ yX11_entry.cls ≠ "java/lang/invoke/VarHandle" ∧ (parseMethodDescriptor yX11_entry.desc).map (fun d => d.parameters.length) = some 2 := by decide +kernel
theorem hdV_X0_count : yX0_count.cls = RX0 ∧ yX0_count.cls ≠ "java/lang/invoke/MethodHandle" ∧ yX0_count.cls ≠ "java/lang/invoke/VarHandle" ∧ (parseMethodDescriptor yX0_count.desc).map (fun d => d.parameters.length) = some 1 := by decide +kernel
theorem hdV_X0_add : yX0_add.cls = RX0 ∧ yX0_add.cls ≠ "java/lang/invoke/MethodHandle" ∧ yX0_add.cls ≠ "java/lang/invoke/VarHandle" ∧ (parseMethodDescriptor yX0_add.desc).map (fun d => d.parameters.length) = some 1 := by decide +kernel
theorem hdV_X0_has : yX0_has.cls = RX0 ∧ yX0_has.cls ≠ "java/lang/invoke/MethodHandle" ∧ yX0_has.cls ≠ "java/lang/invoke/VarHandle" ∧ (parseMethodDescriptor yX0_has.desc).map (fun d => d.parameters.length) = some 2 := by decide +kernel
theorem hdV_X0_isBare : yX0_isBare.cls = RX0 ∧ yX0_isBare.cls ≠ "java/lang/invoke/MethodHandle" ∧ yX0_isBare.cls ≠ "java/lang/invoke/VarHandle" ∧ (parseMethodDescriptor yX0_isBare.desc).map (fun d => d.parameters.length) = some 0 := by decide +kernel
theorem hdV_X0_lacksAny : yX0_lacksAny.cls = RX0 ∧ yX0_lacksAny.cls ≠ "java/lang/invoke/MethodHandle" ∧ yX0_lacksAny.cls ≠ "java/lang/invoke/VarHandle" ∧ (parseMethodDescriptor yX0_lacksAny.desc).map (fun d => d.parameters.length) = some 0 := by decide +kernel
theorem hdV_X0_wayAt : yX0_wayAt.cls = RX0 ∧ yX0_wayAt.cls ≠ "java/lang/invoke/MethodHandle" ∧ yX0_wayAt.cls ≠ "java/lang/invoke/VarHandle" ∧ (parseMethodDescriptor yX0_wayAt.desc).map (fun d => d.parameters.length) = some 1 := by decide +kernel
theorem hdV_X0_roadAt : yX0_roadAt.cls = RX0 ∧ yX0_roadAt.cls ≠ "java/lang/invoke/MethodHandle" ∧ yX0_roadAt.cls ≠ "java/lang/invoke/VarHandle" ∧ (parseMethodDescriptor yX0_roadAt.desc).map (fun d => d.parameters.length) = some 1 := by decide +kernel
theorem hdV_X0_statueAt : yX0_statueAt.cls = RX0 ∧ yX0_statueAt.cls ≠ "java/lang/invoke/MethodHandle" ∧ yX0_statueAt.cls ≠ "java/lang/invoke/VarHandle" ∧ (parseMethodDescriptor yX0_statueAt.desc).map (fun d => d.parameters.length) = some 1 := by decide +kernel
theorem hdV_X0_trialAt : yX0_trialAt.cls = RX0 ∧ yX0_trialAt.cls ≠ "java/lang/invoke/MethodHandle" ∧ yX0_trialAt.cls ≠ "java/lang/invoke/VarHandle" ∧ (parseMethodDescriptor yX0_trialAt.desc).map (fun d => d.parameters.length) = some 1 := by decide +kernel
theorem hdV_X0_storyAt : yX0_storyAt.cls = RX0 ∧ yX0_storyAt.cls ≠ "java/lang/invoke/MethodHandle" ∧ yX0_storyAt.cls ≠ "java/lang/invoke/VarHandle" ∧ (parseMethodDescriptor yX0_storyAt.desc).map (fun d => d.parameters.length) = some 1 := by decide +kernel
theorem hdV_X0_tellerAt : yX0_tellerAt.cls = RX0 ∧ yX0_tellerAt.cls ≠ "java/lang/invoke/MethodHandle" ∧ yX0_tellerAt.cls ≠ "java/lang/invoke/VarHandle" ∧ (parseMethodDescriptor yX0_tellerAt.desc).map (fun d => d.parameters.length) = some 1 := by decide +kernel
theorem hdV_X0_thingAt : yX0_thingAt.cls = RX0 ∧ yX0_thingAt.cls ≠ "java/lang/invoke/MethodHandle" ∧ yX0_thingAt.cls ≠ "java/lang/invoke/VarHandle" ∧ (parseMethodDescriptor yX0_thingAt.desc).map (fun d => d.parameters.length) = some 1 := by decide +kernel
theorem hdV_X3_slopeAt : yX3_slopeAt.cls = RX3 ∧ yX3_slopeAt.cls ≠ "java/lang/invoke/MethodHandle" ∧ yX3_slopeAt.cls ≠ "java/lang/invoke/VarHandle" ∧ (parseMethodDescriptor yX3_slopeAt.desc).map (fun d => d.parameters.length) = some 1 := by decide +kernel
theorem hdV_X10_carries : yX10_carries.cls = RX10 ∧ yX10_carries.cls ≠ "java/lang/invoke/MethodHandle" ∧ yX10_carries.cls ≠ "java/lang/invoke/VarHandle" ∧ (parseMethodDescriptor yX10_carries.desc).map (fun d => d.parameters.length) = some 2 := by decide +kernel
theorem hdV_X10_passable : yX10_passable.cls = RX10 ∧ yX10_passable.cls ≠ "java/lang/invoke/MethodHandle" ∧ yX10_passable.cls ≠ "java/lang/invoke/VarHandle" ∧ (parseMethodDescriptor yX10_passable.desc).map (fun d => d.parameters.length) = some 2 := by decide +kernel
theorem hdS_X11_upwards : yX11_upwards.cls ≠ "java/lang/invoke/MethodHandle" ∧ yX11_upwards.cls ≠ "java/lang/invoke/VarHandle" ∧ (parseMethodDescriptor yX11_upwards.desc).map (fun d => d.parameters.length) = some 2 := by decide +kernel
theorem hdV_X10_hands : yX10_hands.cls = RX10 ∧ yX10_hands.cls ≠ "java/lang/invoke/MethodHandle" ∧ yX10_hands.cls ≠ "java/lang/invoke/VarHandle" ∧ (parseMethodDescriptor yX10_hands.desc).map (fun d => d.parameters.length) = some 2 := by decide +kernel
theorem hdV_X10_handsAlong : yX10_handsAlong.cls = RX10 ∧ yX10_handsAlong.cls ≠ "java/lang/invoke/MethodHandle" ∧ yX10_handsAlong.cls ≠ "java/lang/invoke/VarHandle" ∧ (parseMethodDescriptor yX10_handsAlong.desc).map (fun d => d.parameters.length) = some 2 := by decide +kernel
theorem hdV_X0_easiestWay : yX0_easiestWay.cls = RX0 ∧ yX0_easiestWay.cls ≠ "java/lang/invoke/MethodHandle" ∧ yX0_easiestWay.cls ≠ "java/lang/invoke/VarHandle" ∧ (parseMethodDescriptor yX0_easiestWay.desc).map (fun d => d.parameters.length) = some 2 := by decide +kernel
theorem hdV_X5_isLying : yX5_isLying.cls = RX5 ∧ yX5_isLying.cls ≠ "java/lang/invoke/MethodHandle" ∧ yX5_isLying.cls ≠ "java/lang/invoke/VarHandle" ∧ (parseMethodDescriptor yX5_isLying.desc).map (fun d => d.parameters.length) = some 0 := by decide +kernel
theorem hdS_J6_compare_7cf53 : yJ6_compare_7cf53.cls ≠ "java/lang/invoke/MethodHandle" ∧ yJ6_compare_7cf53.cls ≠ "java/lang/invoke/VarHandle" ∧ (parseMethodDescriptor yJ6_compare_7cf53.desc).map (fun d => d.parameters.length) = some 2 := by decide +kernel
theorem hdV_X10_tenths : yX10_tenths.cls = RX10 ∧ yX10_tenths.cls ≠ "java/lang/invoke/MethodHandle" ∧ yX10_tenths.cls ≠ "java/lang/invoke/VarHandle" ∧ (parseMethodDescriptor yX10_tenths.desc).map (fun d => d.parameters.length) = some 2 := by decide +kernel
theorem hdV_X10_hollowed : yX10_hollowed.cls = RX10 ∧ yX10_hollowed.cls ≠ "java/lang/invoke/MethodHandle" ∧ yX10_hollowed.cls ≠ "java/lang/invoke/VarHandle" ∧ (parseMethodDescriptor yX10_hollowed.desc).map (fun d => d.parameters.length) = some 1 := by decide +kernel
theorem hdV_X8_means : yX8_means.cls = RX8 ∧ yX8_means.cls ≠ "java/lang/invoke/MethodHandle" ∧ yX8_means.cls ≠ "java/lang/invoke/VarHandle" ∧ (parseMethodDescriptor yX8_means.desc).map (fun d => d.parameters.length) = some 1 := by decide +kernel
theorem hdV_X8_favour : yX8_favour.cls = RX8 ∧ yX8_favour.cls ≠ "java/lang/invoke/MethodHandle" ∧ yX8_favour.cls ≠ "java/lang/invoke/VarHandle" ∧ (parseMethodDescriptor yX8_favour.desc).map (fun d => d.parameters.length) = some 1 := by decide +kernel
theorem hdV_X0_meanLean : yX0_meanLean.cls = RX0 ∧ yX0_meanLean.cls ≠ "java/lang/invoke/MethodHandle" ∧ yX0_meanLean.cls ≠ "java/lang/invoke/VarHandle" ∧ (parseMethodDescriptor yX0_meanLean.desc).map (fun d => d.parameters.length) = some 2 := by decide +kernel
theorem hdV_X0_leanChange : yX0_leanChange.cls = RX0 ∧ yX0_leanChange.cls ≠ "java/lang/invoke/MethodHandle" ∧ yX0_leanChange.cls ≠ "java/lang/invoke/VarHandle" ∧ (parseMethodDescriptor yX0_leanChange.desc).map (fun d => d.parameters.length) = some 1 := by decide +kernel
theorem hdV_X10_shaped : yX10_shaped.cls = RX10 ∧ yX10_shaped.cls ≠ "java/lang/invoke/MethodHandle" ∧ yX10_shaped.cls ≠ "java/lang/invoke/VarHandle" ∧ (parseMethodDescriptor yX10_shaped.desc).map (fun d => d.parameters.length) = some 1 := by decide +kernel
theorem hdV_X0_oddsOf : yX0_oddsOf.cls = RX0 ∧ yX0_oddsOf.cls ≠ "java/lang/invoke/MethodHandle" ∧ yX0_oddsOf.cls ≠ "java/lang/invoke/VarHandle" ∧ (parseMethodDescriptor yX0_oddsOf.desc).map (fun d => d.parameters.length) = some 2 := by decide +kernel
theorem hdV_X0_oddsOfAll : yX0_oddsOfAll.cls = RX0 ∧ yX0_oddsOfAll.cls ≠ "java/lang/invoke/MethodHandle" ∧ yX0_oddsOfAll.cls ≠ "java/lang/invoke/VarHandle" ∧ (parseMethodDescriptor yX0_oddsOfAll.desc).map (fun d => d.parameters.length) = some 0 := by decide +kernel
theorem hdV_X0_likeliestWay : yX0_likeliestWay.cls = RX0 ∧ yX0_likeliestWay.cls ≠ "java/lang/invoke/MethodHandle" ∧ yX0_likeliestWay.cls ≠ "java/lang/invoke/VarHandle" ∧ (parseMethodDescriptor yX0_likeliestWay.desc).map (fun d => d.parameters.length) = some 1 := by decide +kernel
theorem hdV_X0_decidingStatue : yX0_decidingStatue.cls = RX0 ∧ yX0_decidingStatue.cls ≠ "java/lang/invoke/MethodHandle" ∧ yX0_decidingStatue.cls ≠ "java/lang/invoke/VarHandle" ∧ (parseMethodDescriptor yX0_decidingStatue.desc).map (fun d => d.parameters.length) = some 0 := by decide +kernel
theorem hdV_X0_oddsThatCarry : yX0_oddsThatCarry.cls = RX0 ∧ yX0_oddsThatCarry.cls ≠ "java/lang/invoke/MethodHandle" ∧ yX0_oddsThatCarry.cls ≠ "java/lang/invoke/VarHandle" ∧ (parseMethodDescriptor yX0_oddsThatCarry.desc).map (fun d => d.parameters.length) = some 1 := by decide +kernel
theorem hdV_X0_bestThing : yX0_bestThing.cls = RX0 ∧ yX0_bestThing.cls ≠ "java/lang/invoke/MethodHandle" ∧ yX0_bestThing.cls ≠ "java/lang/invoke/VarHandle" ∧ (parseMethodDescriptor yX0_bestThing.desc).map (fun d => d.parameters.length) = some 0 := by decide +kernel
theorem hdS_X0_further : yX0_further.cls ≠ "java/lang/invoke/MethodHandle" ∧ yX0_further.cls ≠ "java/lang/invoke/VarHandle" ∧ (parseMethodDescriptor yX0_further.desc).map (fun d => d.parameters.length) = some 3 := by decide +kernel
theorem hdV_X0_peopleByTrials : yX0_peopleByTrials.cls = RX0 ∧ yX0_peopleByTrials.cls ≠ "java/lang/invoke/MethodHandle" ∧ yX0_peopleByTrials.cls ≠ "java/lang/invoke/VarHandle" ∧ (parseMethodDescriptor yX0_peopleByTrials.desc).map (fun d => d.parameters.length) = some 3 := by decide +kernel
theorem hdV_X0_minutesByTrials : yX0_minutesByTrials.cls = RX0 ∧ yX0_minutesByTrials.cls ≠ "java/lang/invoke/MethodHandle" ∧ yX0_minutesByTrials.cls ≠ "java/lang/invoke/VarHandle" ∧ (parseMethodDescriptor yX0_minutesByTrials.desc).map (fun d => d.parameters.length) = some 3 := by decide +kernel
theorem hdV_X10_woodFor : yX10_woodFor.cls = RX10 ∧ yX10_woodFor.cls ≠ "java/lang/invoke/MethodHandle" ∧ yX10_woodFor.cls ≠ "java/lang/invoke/VarHandle" ∧ (parseMethodDescriptor yX10_woodFor.desc).map (fun d => d.parameters.length) = some 1 := by decide +kernel
theorem hdV_X0_woodOf : yX0_woodOf.cls = RX0 ∧ yX0_woodOf.cls ≠ "java/lang/invoke/MethodHandle" ∧ yX0_woodOf.cls ≠ "java/lang/invoke/VarHandle" ∧ (parseMethodDescriptor yX0_woodOf.desc).map (fun d => d.parameters.length) = some 1 := by decide +kernel
theorem hdV_X6_gain : yX6_gain.cls = RX6 ∧ yX6_gain.cls ≠ "java/lang/invoke/MethodHandle" ∧ yX6_gain.cls ≠ "java/lang/invoke/VarHandle" ∧ (parseMethodDescriptor yX6_gain.desc).map (fun d => d.parameters.length) = some 2 := by decide +kernel
theorem hdV_X6_loss : yX6_loss.cls = RX6 ∧ yX6_loss.cls ≠ "java/lang/invoke/MethodHandle" ∧ yX6_loss.cls ≠ "java/lang/invoke/VarHandle" ∧ (parseMethodDescriptor yX6_loss.desc).map (fun d => d.parameters.length) = some 3 := by decide +kernel
theorem hdV_X6_grow : yX6_grow.cls = RX6 ∧ yX6_grow.cls ≠ "java/lang/invoke/MethodHandle" ∧ yX6_grow.cls ≠ "java/lang/invoke/VarHandle" ∧ (parseMethodDescriptor yX6_grow.desc).map (fun d => d.parameters.length) = some 3 := by decide +kernel
theorem hdV_X0_growTrees : yX0_growTrees.cls = RX0 ∧ yX0_growTrees.cls ≠ "java/lang/invoke/MethodHandle" ∧ yX0_growTrees.cls ≠ "java/lang/invoke/VarHandle" ∧ (parseMethodDescriptor yX0_growTrees.desc).map (fun d => d.parameters.length) = some 0 := by decide +kernel
theorem hdV_X0_weightOf : yX0_weightOf.cls = RX0 ∧ yX0_weightOf.cls ≠ "java/lang/invoke/MethodHandle" ∧ yX0_weightOf.cls ≠ "java/lang/invoke/VarHandle" ∧ (parseMethodDescriptor yX0_weightOf.desc).map (fun d => d.parameters.length) = some 1 := by decide +kernel
theorem hdV_X6_treesIn : yX6_treesIn.cls = RX6 ∧ yX6_treesIn.cls ≠ "java/lang/invoke/MethodHandle" ∧ yX6_treesIn.cls ≠ "java/lang/invoke/VarHandle" ∧ (parseMethodDescriptor yX6_treesIn.desc).map (fun d => d.parameters.length) = some 1 := by decide +kernel
theorem hdV_X0_spread : yX0_spread.cls = RX0 ∧ yX0_spread.cls ≠ "java/lang/invoke/MethodHandle" ∧ yX0_spread.cls ≠ "java/lang/invoke/VarHandle" ∧ (parseMethodDescriptor yX0_spread.desc).map (fun d => d.parameters.length) = some 2 := by decide +kernel
theorem hdV_X0_yearOfDispute : yX0_yearOfDispute.cls = RX0 ∧ yX0_yearOfDispute.cls ≠ "java/lang/invoke/MethodHandle" ∧ yX0_yearOfDispute.cls ≠ "java/lang/invoke/VarHandle" ∧ (parseMethodDescriptor yX0_yearOfDispute.desc).map (fun d => d.parameters.length) = some 1 := by decide +kernel
theorem hdV_X0_inhabitants : yX0_inhabitants.cls = RX0 ∧ yX0_inhabitants.cls ≠ "java/lang/invoke/MethodHandle" ∧ yX0_inhabitants.cls ≠ "java/lang/invoke/VarHandle" ∧ (parseMethodDescriptor yX0_inhabitants.desc).map (fun d => d.parameters.length) = some 1 := by decide +kernel
theorem hdV_X0_clearlyLaid : yX0_clearlyLaid.cls = RX0 ∧ yX0_clearlyLaid.cls ≠ "java/lang/invoke/MethodHandle" ∧ yX0_clearlyLaid.cls ≠ "java/lang/invoke/VarHandle" ∧ (parseMethodDescriptor yX0_clearlyLaid.desc).map (fun d => d.parameters.length) = some 2 := by decide +kernel
theorem hdV_X10_duration : yX10_duration.cls = RX10 ∧ yX10_duration.cls ≠ "java/lang/invoke/MethodHandle" ∧ yX10_duration.cls ≠ "java/lang/invoke/VarHandle" ∧ (parseMethodDescriptor yX10_duration.desc).map (fun d => d.parameters.length) = some 3 := by decide +kernel
theorem hdV_X10_risk : yX10_risk.cls = RX10 ∧ yX10_risk.cls ≠ "java/lang/invoke/MethodHandle" ∧ yX10_risk.cls ≠ "java/lang/invoke/VarHandle" ∧ (parseMethodDescriptor yX10_risk.desc).map (fun d => d.parameters.length) = some 2 := by decide +kernel
theorem hdS_X11_isCrowd : yX11_isCrowd.cls ≠ "java/lang/invoke/MethodHandle" ∧ yX11_isCrowd.cls ≠ "java/lang/invoke/VarHandle" ∧ (parseMethodDescriptor yX11_isCrowd.desc).map (fun d => d.parameters.length) = some 1 := by decide +kernel
theorem hdS_X7_typeOf : yX7_typeOf.cls ≠ "java/lang/invoke/MethodHandle" ∧ yX7_typeOf.cls ≠ "java/lang/invoke/VarHandle" ∧ (parseMethodDescriptor yX7_typeOf.desc).map (fun d => d.parameters.length) = some 1 := by decide +kernel
theorem hdV_X7_advance : yX7_advance.cls = RX7 ∧ yX7_advance.cls ≠ "java/lang/invoke/MethodHandle" ∧ yX7_advance.cls ≠ "java/lang/invoke/VarHandle" ∧ (parseMethodDescriptor yX7_advance.desc).map (fun d => d.parameters.length) = some 0 := by decide +kernel
theorem hdV_X7_begin : yX7_begin.cls = RX7 ∧ yX7_begin.cls ≠ "java/lang/invoke/MethodHandle" ∧ yX7_begin.cls ≠ "java/lang/invoke/VarHandle" ∧ (parseMethodDescriptor yX7_begin.desc).map (fun d => d.parameters.length) = some 1 := by decide +kernel
theorem hdV_J0_coder_7d493 : yJ0_coder_7d493.cls = RJ0 ∧ yJ0_coder_7d493.cls ≠ "java/lang/invoke/MethodHandle" ∧ yJ0_coder_7d493.cls ≠ "java/lang/invoke/VarHandle" ∧ (parseMethodDescriptor yJ0_coder_7d493.desc).map (fun d => d.parameters.length) = some 0 := by decide +kernel
theorem hdV_J0_length_8abf5 : yJ0_length_8abf5.cls = RJ0 ∧ yJ0_length_8abf5.cls ≠ "java/lang/invoke/MethodHandle" ∧ yJ0_length_8abf5.cls ≠ "java/lang/invoke/VarHandle" ∧ (parseMethodDescriptor yJ0_length_8abf5.desc).map (fun d => d.parameters.length) = some 0 := by decide +kernel
theorem hdV_J0_isLatin1_aae02 : yJ0_isLatin1_aae02.cls = RJ0 ∧ yJ0_isLatin1_aae02.cls ≠ "java/lang/invoke/MethodHandle" ∧ yJ0_isLatin1_aae02.cls ≠ "java/lang/invoke/VarHandle" ∧ (parseMethodDescriptor yJ0_isLatin1_aae02.desc).map (fun d => d.parameters.length) = some 0 := by decide +kernel
theorem hdS_J3_checkIndex_8e157 : yJ3_checkIndex_8e157.cls ≠ "java/lang/invoke/MethodHandle" ∧ yJ3_checkIndex_8e157.cls ≠ "java/lang/invoke/VarHandle" ∧ (parseMethodDescriptor yJ3_checkIndex_8e157.desc).map (fun d => d.parameters.length) = some 3 := by decide +kernel
theorem hdS_J0_checkIndex_df160 : yJ0_checkIndex_df160.cls ≠ "java/lang/invoke/MethodHandle" ∧ yJ0_checkIndex_df160.cls ≠ "java/lang/invoke/VarHandle" ∧ (parseMethodDescriptor yJ0_checkIndex_df160.desc).map (fun d => d.parameters.length) = some 2 := by decide +kernel
theorem hdS_J1_charAt_3b067 : yJ1_charAt_3b067.cls ≠ "java/lang/invoke/MethodHandle" ∧ yJ1_charAt_3b067.cls ≠ "java/lang/invoke/VarHandle" ∧ (parseMethodDescriptor yJ1_charAt_3b067.desc).map (fun d => d.parameters.length) = some 2 := by decide +kernel
theorem hdV_J0_charAt_5068e : yJ0_charAt_5068e.cls = RJ0 ∧ yJ0_charAt_5068e.cls ≠ "java/lang/invoke/MethodHandle" ∧ yJ0_charAt_5068e.cls ≠ "java/lang/invoke/VarHandle" ∧ (parseMethodDescriptor yJ0_charAt_5068e.desc).map (fun d => d.parameters.length) = some 1 := by decide +kernel
theorem hdV_X7_among : yX7_among.cls = RX7 ∧ yX7_among.cls ≠ "java/lang/invoke/MethodHandle" ∧ yX7_among.cls ≠ "java/lang/invoke/VarHandle" ∧ (parseMethodDescriptor yX7_among.desc).map (fun d => d.parameters.length) = some 1 := by decide +kernel
theorem hdV_X7_isWord : yX7_isWord.cls = RX7 ∧ yX7_isWord.cls ≠ "java/lang/invoke/MethodHandle" ∧ yX7_isWord.cls ≠ "java/lang/invoke/VarHandle" ∧ (parseMethodDescriptor yX7_isWord.desc).map (fun d => d.parameters.length) = some 0 := by decide +kernel
theorem hdV_X3_add : yX3_add.cls = RX3 ∧ yX3_add.cls ≠ "java/lang/invoke/MethodHandle" ∧ yX3_add.cls ≠ "java/lang/invoke/VarHandle" ∧ (parseMethodDescriptor yX3_add.desc).map (fun d => d.parameters.length) = some 1 := by decide +kernel
theorem hdV_X7_isSign : yX7_isSign.cls = RX7 ∧ yX7_isSign.cls ≠ "java/lang/invoke/MethodHandle" ∧ yX7_isSign.cls ≠ "java/lang/invoke/VarHandle" ∧ (parseMethodDescriptor yX7_isSign.desc).map (fun d => d.parameters.length) = some 1 := by decide +kernel
theorem hdV_X8_add : yX8_add.cls = RX8 ∧ yX8_add.cls ≠ "java/lang/invoke/MethodHandle" ∧ yX8_add.cls ≠ "java/lang/invoke/VarHandle" ∧ (parseMethodDescriptor yX8_add.desc).map (fun d => d.parameters.length) = some 1 := by decide +kernel
theorem hdV_X4_clear : yX4_clear.cls = RX4 ∧ yX4_clear.cls ≠ "java/lang/invoke/MethodHandle" ∧ yX4_clear.cls ≠ "java/lang/invoke/VarHandle" ∧ (parseMethodDescriptor yX4_clear.desc).map (fun d => d.parameters.length) = some 0 := by decide +kernel
theorem hdV_X4_add : yX4_add.cls = RX4 ∧ yX4_add.cls ≠ "java/lang/invoke/MethodHandle" ∧ yX4_add.cls ≠ "java/lang/invoke/VarHandle" ∧ (parseMethodDescriptor yX4_add.desc).map (fun d => d.parameters.length) = some 3 := by decide +kernel
theorem hdV_X4_agrees : yX4_agrees.cls = RX4 ∧ yX4_agrees.cls ≠ "java/lang/invoke/MethodHandle" ∧ yX4_agrees.cls ≠ "java/lang/invoke/VarHandle" ∧ (parseMethodDescriptor yX4_agrees.desc).map (fun d => d.parameters.length) = some 1 := by decide +kernel
theorem hdV_X4_agreeing : yX4_agreeing.cls = RX4 ∧ yX4_agreeing.cls ≠ "java/lang/invoke/MethodHandle" ∧ yX4_agreeing.cls ≠ "java/lang/invoke/VarHandle" ∧ (parseMethodDescriptor yX4_agreeing.desc).map (fun d => d.parameters.length) = some 1 := by decide +kernel
theorem hdV_X5_report : yX5_report.cls = RX5 ∧ yX5_report.cls ≠ "java/lang/invoke/MethodHandle" ∧ yX5_report.cls ≠ "java/lang/invoke/VarHandle" ∧ (parseMethodDescriptor yX5_report.desc).map (fun d => d.parameters.length) = some 1 := by decide +kernel
theorem hdV_X6_yearGone : yX6_yearGone.cls = RX6 ∧ yX6_yearGone.cls ≠ "java/lang/invoke/MethodHandle" ∧ yX6_yearGone.cls ≠ "java/lang/invoke/VarHandle" ∧ (parseMethodDescriptor yX6_yearGone.desc).map (fun d => d.parameters.length) = some 0 := by decide +kernel
theorem hdV_X7_hasRoomFor : yX7_hasRoomFor.cls = RX7 ∧ yX7_hasRoomFor.cls ≠ "java/lang/invoke/MethodHandle" ∧ yX7_hasRoomFor.cls ≠ "java/lang/invoke/VarHandle" ∧ (parseMethodDescriptor yX7_hasRoomFor.desc).map (fun d => d.parameters.length) = some 1 := by decide +kernel
theorem hdV_X7_put : yX7_put.cls = RX7 ∧ yX7_put.cls ≠ "java/lang/invoke/MethodHandle" ∧ yX7_put.cls ≠ "java/lang/invoke/VarHandle" ∧ (parseMethodDescriptor yX7_put.desc).map (fun d => d.parameters.length) = some 1 := by decide +kernel
theorem hdV_X7_empty : yX7_empty.cls = RX7 ∧ yX7_empty.cls ≠ "java/lang/invoke/MethodHandle" ∧ yX7_empty.cls ≠ "java/lang/invoke/VarHandle" ∧ (parseMethodDescriptor yX7_empty.desc).map (fun d => d.parameters.length) = some 0 := by decide +kernel
theorem hdV_X10_limit : yX10_limit.cls = RX10 ∧ yX10_limit.cls ≠ "java/lang/invoke/MethodHandle" ∧ yX10_limit.cls ≠ "java/lang/invoke/VarHandle" ∧ (parseMethodDescriptor yX10_limit.desc).map (fun d => d.parameters.length) = some 2 := by decide +kernel
set_option maxHeartbeats 4000000 in
set_option maxRecDepth 100000 in
theorem c_X0_clear {l : Launch} {D : va_G} {ad : Nat → Nat} {cy : Nat → ClassId} {A : Nat → Prop} {g : CG} {q : SE} (M : MM) (a0 : Nat) (k0 : ok g a0 0 0) {Z : MM} (h : f_X0_clear M a0 = some Z) : Met l yX0_clear wsX0_clear ({ frames := 0, cells := 0, slots := 0, locals := 0 }) (va_Pc [.ref (ad a0)] (Wd D ad cy A g q M)) (va_Qv (fun u => u = Z) (Wd D ad cy A g q) A) 0 0 A := by
  refine Met.ofW (cc := cX0_clear) (maxL := 2) (ret := none) (by decide) rfl ?_
  intro p e s m args below meth c s₁ B hml hv
  obtain ⟨rfl, hP, hK, hD, hT, hG⟩ := hv
  have hx := B.exec
  have hb := B.bytes
  have hr := B.returns
  have hts := atoms_spec (ws := wsX0_clear) B.pre
  have hown : s.vm.findClass RX0 = some m.cls := findClass_of_methodNamed B.named
  have hlocks := B.notSynchronized
  have in0 : ∀ w ∈ u_ws RX0 TX0 17, w ∈ wsX0_clear := fun w h => List.mem_cons_of_mem _ (List.mem_append_right _ h)
  have hS : va_S A s.heap s.heap [] := va_S.rf
  have hl := lv_entry ([.ref (ad a0)]) (n := 2) (Nat.le_of_ble_eq_true rfl)
  rw [lg_entry_eq]
  generalize (lg_sl ([.ref (ad a0)]) ++ List.replicate (2 - (lg_sl ([.ref (ad a0)])).length) Slot.unset).toArray = ls at hl ⊢
  have hl : lv_has ls 2 [(0, .ref (ad a0))] := hl
  unfold f_X0_clear at h
  refine lv_iconst (v := 0) hx hb dX0_clear_0 rfl ?_
  refine lv_istore_n (lv' := [(1, .int 0), (0, .ref (ad a0))]) hx hb dX0_clear_1 rfl hl (by decide) rfl (fun ls hl => ?_)
  have L1 : ∀ n1 : Nat, ∀ (M1 : MM) (y1_0 : Nat) (y1_1 : Int32) (ky1_0 : ok g y1_0 0 0) (H : Heap) (locs : List Loc), f_X0_clear_L2 n1 M1 y1_0 y1_1 = some Z → va_P D vwCl (wd ad cy g M1) H → va_D A (wd ad cy g M1) → WT g M1 → va_S A s.heap H locs → ∀ (ls : Array Slot), lv_has ls 2 [(0, .ref (ad y1_0)), (1, .int y1_1)] → W p l e ((headSpec wsX0_clear ({ frames := 0, cells := 0, slots := 0, locals := 0 })).room) s m (([.ref (ad a0)] : List Value).toArray) below meth c H locs 0 0 (MQ below (va_Qv (fun u => u = Z) (Wd D ad cy A g q) A) ([.ref (ad a0)]).toArray s 0 0 A) (F0 m 2 ls []) := by
    intro n1
    induction n1 with
    | zero => intro M1 y1_0 y1_1 ky1_0 H locs h; exact absurd h (by simp [f_X0_clear_L2])
    | succ n1 ih1 =>
      intro M1 y1_0 y1_1 ky1_0 H locs h hP hD hT hS ls hl
      rw [f_X0_clear_L2] at h
      refine lv_iload_n hx hb dX0_clear_2 rfl (lv_at hl 1 rfl) ?_
      refine lv_aload_n hx hb dX0_clear_3 rfl (lv_at hl 0 rfl) ?_
      rcases hN2 : gR M1 y1_0 7 with _ | b2
      · exact absurd (oc_n hN2 h) (by simp)
      replace h := oc_s hN2 h
      have kb2 := hT.f ky1_0 (k := 7) (t := 15) (n := 10) rfl hN2
      refine r_get (T := TX0) (v := .ref (ad b2)) hx hb hts in0 hown hK hP ky1_0 (by decide) rfl 7 (by decide) (hts (.fieldLink RX0 50 "StoneWalk$Island" "counts" "[I") (List.mem_of_getElem? (i := 1) (by decide +kernel))) rfl (t := 2) rfl (by show va_rf _ = _; rw [hN2]; rfl) dX0_clear_4 ?_
      refine r_alen (t0 := 1) (v := 10) hx hb hK hP kb2 (by decide) rfl rfl dX0_clear_7 ?_
      refine lv_icmp_ge (tgt := 24) hx hb dX0_clear_8 rfl (fun c3 => ?_) (fun c3 => ?_)
      · replace h := ite_t c3 h
        refine lv_aload_n hx hb dX0_clear_24 rfl (lv_at hl 0 rfl) ?_
        refine lv_iconst (v := 0) hx hb dX0_clear_25 rfl ?_
        refine r_putI (T := TX0) (ty := .int) (v := 0) hx hb hts in0 tyX0 tyX0_ok nmX0 hown hK hP hD hT hS ky1_0 (by decide) rfl 8 (by decide) (hts (.fieldLink RX0 60 "StoneWalk$Island" "lying" "I") (List.mem_of_getElem? (i := 2) (by decide +kernel))) rfl rfl (tyX0_ok 8 (by decide)) rfl rfl rfl dX0_clear_26 (fun H locs hP hD hT hS => ?_)
        exact r_vret hx hb hr hlocks hP hK hD hT hG hS (Option.some.inj h) dX0_clear_29
      · replace h := ite_f c3 h
        refine lv_aload_n hx hb dX0_clear_11 rfl (lv_at hl 0 rfl) ?_
        rcases hN4 : gR M1 y1_0 7 with _ | b4
        · exact absurd (oc_n hN4 h) (by simp)
        replace h := oc_s hN4 h
        have kb4 := hT.f ky1_0 (k := 7) (t := 15) (n := 10) rfl hN4
        refine r_get (T := TX0) (v := .ref (ad b4)) hx hb hts in0 hown hK hP ky1_0 (by decide) rfl 7 (by decide) (hts (.fieldLink RX0 50 "StoneWalk$Island" "counts" "[I") (List.mem_of_getElem? (i := 1) (by decide +kernel))) rfl (t := 2) rfl (by show va_rf _ = _; rw [hN4]; rfl) dX0_clear_12 ?_
        refine lv_iload_n hx hb dX0_clear_15 rfl (lv_at hl 1 rfl) ?_
        refine lv_iconst (v := 0) hx hb dX0_clear_16 rfl ?_
        obtain ⟨hn5, h⟩ := chk_some h
        refine r_iast hx hb hK hP hD hT hS kb4 hn5 dX0_clear_17 (fun H locs hP hD hT hS => ?_)
        refine lv_iinc (v := y1_1 + 1) (lv' := [(1, .int (y1_1 + 1)), (0, .ref (ad y1_0))]) hx hb dX0_clear_18 hl (k := 1) rfl rfl (by decide) rfl (fun ls hl => ?_)
        refine lv_goto (tgt := 2) hx hb dX0_clear_21 rfl ?_
        exact ih1 (pI M1 b4 (ix y1_1) 0) y1_0 (y1_1 + 1) ky1_0 _ _ h hP hD hT hS ls (lv_sub hl [1, 0] rfl)
  exact L1 FU M a0 0 k0 _ _ h hP hD hT hS ls (lv_sub hl [1, 0] rfl)
set_option maxHeartbeats 4000000 in
set_option maxRecDepth 100000 in
theorem c_X11_entry {l : Launch} {D : va_G} {ad : Nat → Nat} {cy : Nat → ClassId} {A : Nat → Prop} {g : CG} {q : SE} (M : MM) (a0 : Nat) (n0 : Nat) (x1 : Int32) (k0 : ok g a0 15 n0) {Z : Int32} (h : f_X11_entry M a0 n0 x1 = some Z) : Met l yX11_entry wsX11_entry ({ frames := 0, cells := 0, slots := 0, locals := 0 }) (va_Pc [.ref (ad a0), .int x1] (Wd D ad cy A g q M)) (va_Qi (fun r u => r = Z ∧ u = M) (Wd D ad cy A g q) A) 0 0 A := by
  refine Met.ofW (cc := cX11_entry) (maxL := 2) (ret := (some .int)) (by decide) rfl ?_
  intro p e s m args below meth c s₁ B hml hv
  obtain ⟨rfl, hP, hK, hD, hT, hG⟩ := hv
  have hx := B.exec
  have hb := B.bytes
  have hr := B.returns
  have hts := atoms_spec (ws := wsX11_entry) B.pre
  have hown : s.vm.findClass RX11 = some m.cls := findClass_of_methodNamed B.named
  have hlocks := B.notSynchronized
  have hS : va_S A s.heap s.heap [] := va_S.rf
  have hl := lv_entry ([.ref (ad a0), .int x1]) (n := 2) (Nat.le_of_ble_eq_true rfl)
  rw [lg_entry_eq]
  generalize (lg_sl ([.ref (ad a0), .int x1]) ++ List.replicate (2 - (lg_sl ([.ref (ad a0), .int x1])).length) Slot.unset).toArray = ls at hl ⊢
  have hl : lv_has ls 2 [(0, .ref (ad a0)), (1, .int x1)] := hl
  unfold f_X11_entry at h
  refine lv_iload_n hx hb dX11_entry_0 rfl (lv_at hl 1 rfl) ?_
  refine lv_if_lt (tgt := 16) hx hb dX11_entry_1 rfl (fun c1 => ?_) (fun c1 => ?_)
  · replace h := ite_t c1 h
    refine lv_iconst (v := 0) hx hb dX11_entry_16 rfl ?_
    exact r_iret hx hb hr hlocks hP hK hD hT hG hS (Option.some.inj h) rfl dX11_entry_17
  · replace h := ite_f c1 h
    refine lv_iload_n hx hb dX11_entry_4 rfl (lv_at hl 1 rfl) ?_
    refine lv_aload_n hx hb dX11_entry_5 rfl (lv_at hl 0 rfl) ?_
    refine r_alen (t0 := 1) (v := nI n0) hx hb hK hP k0 (by decide) rfl rfl dX11_entry_6 ?_
    refine lv_icmp_ge (tgt := 16) hx hb dX11_entry_7 rfl (fun c2 => ?_) (fun c2 => ?_)
    · replace h := ite_t c2 h
      refine lv_iconst (v := 0) hx hb dX11_entry_16 rfl ?_
      exact r_iret hx hb hr hlocks hP hK hD hT hG hS (Option.some.inj h) rfl dX11_entry_17
    · replace h := ite_f c2 h
      refine lv_aload_n hx hb dX11_entry_10 rfl (lv_at hl 0 rfl) ?_
      refine lv_iload_n hx hb dX11_entry_11 rfl (lv_at hl 1 rfl) ?_
      obtain ⟨hn3, h⟩ := chk_some h
      refine r_iald hx hb hK hP k0 hn3 dX11_entry_12 ?_
      refine lv_goto (tgt := 17) hx hb dX11_entry_13 rfl ?_
      exact r_iret hx hb hr hlocks hP hK hD hT hG hS (Option.some.inj h) rfl dX11_entry_17
set_option maxHeartbeats 4000000 in
set_option maxRecDepth 100000 in
theorem c_X11_entry_s {l : Launch} {D : va_G} {ad : Nat → Nat} {cy : Nat → ClassId} {A : Nat → Prop} {g : CG} {q : SE} (M : MM) (t0 : Nat) (x1 : Int32) (k0 : t0 < 7) {Z : Int32} (h : f_X11_entry_s M t0 x1 = some Z) : Met l yX11_entry wsX11_entry ({ frames := 0, cells := 0, slots := 0, locals := 0 }) (va_Pc [.ref (q.1 t0), .int x1] (Wd D ad cy A g q M)) (va_Qi (fun r u => r = Z ∧ u = M) (Wd D ad cy A g q) A) 0 0 A := by
  refine Met.ofW (cc := cX11_entry) (maxL := 2) (ret := (some .int)) (by decide) rfl ?_
  intro p e s m args below meth c s₁ B hml hv
  obtain ⟨rfl, hP, hK, hD, hT, hG⟩ := hv
  have hx := B.exec
  have hb := B.bytes
  have hr := B.returns
  have hts := atoms_spec (ws := wsX11_entry) B.pre
  have hown : s.vm.findClass RX11 = some m.cls := findClass_of_methodNamed B.named
  have hlocks := B.notSynchronized
  have hS : va_S A s.heap s.heap [] := va_S.rf
  have hl := lv_entry ([.ref (q.1 t0), .int x1]) (n := 2) (Nat.le_of_ble_eq_true rfl)
  rw [lg_entry_eq]
  generalize (lg_sl ([.ref (q.1 t0), .int x1]) ++ List.replicate (2 - (lg_sl ([.ref (q.1 t0), .int x1])).length) Slot.unset).toArray = ls at hl ⊢
  have hl : lv_has ls 2 [(0, .ref (q.1 t0)), (1, .int x1)] := hl
  unfold f_X11_entry_s at h
  refine lv_iload_n hx hb dX11_entry_0 rfl (lv_at hl 1 rfl) ?_
  refine lv_if_lt (tgt := 16) hx hb dX11_entry_1 rfl (fun c1 => ?_) (fun c1 => ?_)
  · replace h := ite_t c1 h
    refine lv_iconst (v := 0) hx hb dX11_entry_16 rfl ?_
    exact r_iret hx hb hr hlocks hP hK hD hT hG hS (Option.some.inj h) rfl dX11_entry_17
  · replace h := ite_f c1 h
    refine lv_iload_n hx hb dX11_entry_4 rfl (lv_at hl 1 rfl) ?_
    refine lv_aload_n hx hb dX11_entry_5 rfl (lv_at hl 0 rfl) ?_
    refine r_slen hx hb hG hS k0 dX11_entry_6 ?_
    refine lv_icmp_ge (tgt := 16) hx hb dX11_entry_7 rfl (fun c2 => ?_) (fun c2 => ?_)
    · replace h := ite_t c2 h
      refine lv_iconst (v := 0) hx hb dX11_entry_16 rfl ?_
      exact r_iret hx hb hr hlocks hP hK hD hT hG hS (Option.some.inj h) rfl dX11_entry_17
    · replace h := ite_f c2 h
      refine lv_aload_n hx hb dX11_entry_10 rfl (lv_at hl 0 rfl) ?_
      refine lv_iload_n hx hb dX11_entry_11 rfl (lv_at hl 1 rfl) ?_
      obtain ⟨hn3, h⟩ := chk_some h
      refine r_sald hx hb hG hS k0 hn3 dX11_entry_12 ?_
      refine lv_goto (tgt := 17) hx hb dX11_entry_13 rfl ?_
      exact r_iret hx hb hr hlocks hP hK hD hT hG hS (Option.some.inj h) rfl dX11_entry_17
set_option maxHeartbeats 4000000 in
set_option maxRecDepth 100000 in
theorem c_X0_count {l : Launch} {D : va_G} {ad : Nat → Nat} {cy : Nat → ClassId} {A : Nat → Prop} {g : CG} {q : SE} (M : MM) (a0 : Nat) (x1 : Int32) (k0 : ok g a0 0 0) {Z : Int32} (h : f_X0_count M a0 x1 = some Z) : Met l yX0_count wsX0_count ({ frames := 1, cells := 0, slots := 0, locals := 21 }) (va_Pc [.ref (ad a0), .int x1] (Wd D ad cy A g q M)) (va_Qi (fun r u => r = Z ∧ u = M) (Wd D ad cy A g q) A) 0 0 A := by
  refine Met.ofW (cc := cX0_count) (maxL := 2) (ret := (some .int)) (by decide) rfl ?_
  intro p e s m args below meth c s₁ B hml hv
  obtain ⟨rfl, hP, hK, hD, hT, hG⟩ := hv
  have hx := B.exec
  have hb := B.bytes
  have hr := B.returns
  have hts := atoms_spec (ws := wsX0_count) B.pre
  have hown : s.vm.findClass RX0 = some m.cls := findClass_of_methodNamed B.named
  have hlocks := B.notSynchronized
  have in0 : ∀ w ∈ u_ws RX0 TX0 17, w ∈ wsX0_count := fun w h => List.mem_cons_of_mem _ (List.mem_append_right _ h)
  have hS : va_S A s.heap s.heap [] := va_S.rf
  have hl := lv_entry ([.ref (ad a0), .int x1]) (n := 2) (Nat.le_of_ble_eq_true rfl)
  rw [lg_entry_eq]
  generalize (lg_sl ([.ref (ad a0), .int x1]) ++ List.replicate (2 - (lg_sl ([.ref (ad a0), .int x1])).length) Slot.unset).toArray = ls at hl ⊢
  have hl : lv_has ls 2 [(0, .ref (ad a0)), (1, .int x1)] := hl
  unfold f_X0_count at h
  refine lv_aload_n hx hb dX0_count_0 rfl (lv_at hl 0 rfl) ?_
  rcases hN1 : gR M a0 7 with _ | b1
  · exact absurd (oc_n hN1 h) (by simp)
  replace h := oc_s hN1 h
  have kb1 := hT.f k0 (k := 7) (t := 15) (n := 10) rfl hN1
  refine r_get (T := TX0) (v := .ref (ad b1)) hx hb hts in0 hown hK hP k0 (by decide) rfl 7 (by decide) (hts (.fieldLink RX0 50 "StoneWalk$Island" "counts" "[I") (List.mem_of_getElem? (i := 1) (by decide +kernel))) rfl (t := 2) rfl (by show va_rf _ = _; rw [hN1]; rfl) dX0_count_1 ?_
  refine lv_iload_n hx hb dX0_count_4 rfl (lv_at hl 1 rfl) ?_
  obtain ⟨z2, h2, h⟩ := ob_some h
  refine k_i (va_runSN (As := [.ref (ad b1), .int x1]) (rest := []) ⟨hx, hb, hml, hown, hts⟩ (c_X11_entry (l := l) M b1 10 x1 kb1 h2) ⟨va_cnB 2 hts gX0_count_X11_entry_n71 rfl rfl rfl (hG.2.1 _ (List.mem_of_getElem? (i := 9) rfl)) (hts (.initialized RX11) (List.mem_of_getElem? (i := 3) (by decide +kernel))) hdS_X11_entry ⟨Nat.le_of_ble_eq_true rfl, Nat.le_of_ble_eq_true rfl⟩, (hts (.static yX11_entry) (List.mem_of_getElem? (i := 2) (by decide +kernel))), trivial⟩ (pS hP hK hD hT hG hS) rfl rfl hl.1 rfl (lv_room (Nat.le_of_ble_eq_true rfl)) dX0_count_5 ⟨Nat.zero_le _, Nat.zero_le _⟩) hS (fun H locs hP hD hT hS => ?_)
  exact r_iret hx hb hr hlocks hP hK hD hT hG hS (Option.some.inj h) rfl dX0_count_8
set_option maxHeartbeats 4000000 in
set_option maxRecDepth 100000 in
theorem c_X0_add {l : Launch} {D : va_G} {ad : Nat → Nat} {cy : Nat → ClassId} {A : Nat → Prop} {g : CG} {q : SE} (M : MM) (a0 : Nat) (x1 : Int32) (k0 : ok g a0 0 0) {Z : (Int32 × MM)} (h : f_X0_add M a0 x1 = some Z) : Met l yX0_add wsX0_add ({ frames := 2, cells := 0, slots := 0, locals := 42 }) (va_Pc [.ref (ad a0), .int x1] (Wd D ad cy A g q M)) (va_Qi (fun r u => r = Z.1 ∧ u = Z.2) (Wd D ad cy A g q) A) 0 0 A := by
  refine Met.ofW (cc := cX0_add) (maxL := 3) (ret := (some .int)) (by decide) rfl ?_
  intro p e s m args below meth c s₁ B hml hv
  obtain ⟨rfl, hP, hK, hD, hT, hG⟩ := hv
  have hx := B.exec
  have hb := B.bytes
  have hr := B.returns
  have hts := atoms_spec (ws := wsX0_add) B.pre
  have hown : s.vm.findClass RX0 = some m.cls := findClass_of_methodNamed B.named
  have hlocks := B.notSynchronized
  have in0 : ∀ w ∈ u_ws RX0 TX0 17, w ∈ wsX0_add := fun w h => List.mem_cons_of_mem _ (List.mem_append_right _ h)
  have hS : va_S A s.heap s.heap [] := va_S.rf
  have hl := lv_entry ([.ref (ad a0), .int x1]) (n := 3) (Nat.le_of_ble_eq_true rfl)
  rw [lg_entry_eq]
  generalize (lg_sl ([.ref (ad a0), .int x1]) ++ List.replicate (3 - (lg_sl ([.ref (ad a0), .int x1])).length) Slot.unset).toArray = ls at hl ⊢
  have hl : lv_has ls 3 [(0, .ref (ad a0)), (1, .int x1)] := hl
  unfold f_X0_add at h
  refine lv_aload_n hx hb dX0_add_0 rfl (lv_at hl 0 rfl) ?_
  refine lv_iload_n hx hb dX0_add_1 rfl (lv_at hl 1 rfl) ?_
  obtain ⟨z1, h1, h⟩ := ob_some h
  refine k_i (va_runV (As := [.int x1]) (rest := []) ⟨hx, hb, hml, hown, hts⟩ (c_X0_count (l := l) M a0 x1 k0 h1) (cwV 1 hts gX0_add_X0_count rfl rfl rfl hdV_X0_count ⟨Nat.le_of_ble_eq_true rfl, Nat.le_of_ble_eq_true rfl⟩) (pV (T := TX0) hP hK hD hT hG hS k0 (by decide) rfl) rfl rfl hl.1 rfl (lv_room (Nat.le_of_ble_eq_true rfl)) dX0_add_2 ⟨Nat.zero_le _, Nat.zero_le _⟩) hS (fun H locs hP hD hT hS => ?_)
  refine lv_istore_n (lv' := [(2, .int z1), (0, .ref (ad a0)), (1, .int x1)]) hx hb dX0_add_5 rfl hl (by decide) rfl (fun ls hl => ?_)
  refine lv_iload_n hx hb dX0_add_6 rfl (lv_at hl 2 rfl) ?_
  refine lv_if_lt (tgt := 30) hx hb dX0_add_7 rfl (fun c2 => ?_) (fun c2 => ?_)
  · replace h := ite_t c2 h
    refine lv_iconst (v := (-1)) hx hb dX0_add_30 rfl ?_
    exact r_iret hx hb hr hlocks hP hK hD hT hG hS (congrArg Prod.fst (Option.some.inj h)) (congrArg Prod.snd (Option.some.inj h)) dX0_add_31
  · replace h := ite_f c2 h
    refine lv_iload_n hx hb dX0_add_10 rfl (lv_at hl 2 rfl) ?_
    refine lv_aload_n hx hb dX0_add_11 rfl (lv_at hl 1 rfl) ?_
    rcases hN3 : gR M a0 7 with _ | b3
    · exact absurd (oc_n hN3 h) (by simp)
    replace h := oc_s hN3 h
    have kb3 := hT.f k0 (k := 7) (t := 15) (n := 10) rfl hN3
    refine r_get (T := TX0) (v := .ref (ad b3)) hx hb hts in0 hown hK hP k0 (by decide) rfl 7 (by decide) (hts (.fieldLink RX0 50 "StoneWalk$Island" "counts" "[I") (List.mem_of_getElem? (i := 1) (by decide +kernel))) rfl (t := 2) rfl (by show va_rf _ = _; rw [hN3]; rfl) dX0_add_12 ?_
    refine r_alen (t0 := 1) (v := 10) hx hb hK hP kb3 (by decide) rfl rfl dX0_add_15 ?_
    refine lv_icmp_ge (tgt := 30) hx hb dX0_add_16 rfl (fun c4 => ?_) (fun c4 => ?_)
    · replace h := ite_t c4 h
      refine lv_iconst (v := (-1)) hx hb dX0_add_30 rfl ?_
      exact r_iret hx hb hr hlocks hP hK hD hT hG hS (congrArg Prod.fst (Option.some.inj h)) (congrArg Prod.snd (Option.some.inj h)) dX0_add_31
    · replace h := ite_f c4 h
      refine lv_iload_n hx hb dX0_add_19 rfl (lv_at hl 0 rfl) ?_
      refine r_sgetN (t := 0) hx hb hG hS hown (by decide) rfl (hG.2.2.1 _ (List.mem_of_getElem? (i := 0) rfl)) dX0_add_20 ?_
      refine lv_iload_n hx hb dX0_add_23 rfl (lv_at hl 2 rfl) ?_
      obtain ⟨z5, h5, h⟩ := ob_some h
      refine k_i (va_runSN (As := [.ref (q.1 0), .int x1]) (rest := [.int z1]) ⟨hx, hb, hml, hown, hts⟩ (c_X11_entry_s (l := l) M 0 x1 (by decide) h5) ⟨va_cnB 2 hts gX0_add_X11_entry_n71 rfl rfl rfl (hG.2.1 _ (List.mem_of_getElem? (i := 9) rfl)) (hts (.initialized RX11) (List.mem_of_getElem? (i := 8) (by decide +kernel))) hdS_X11_entry ⟨Nat.le_of_ble_eq_true rfl, Nat.le_of_ble_eq_true rfl⟩, (hts (.static yX11_entry) (List.mem_of_getElem? (i := 7) (by decide +kernel))), trivial⟩ (pS hP hK hD hT hG hS) rfl rfl hl.1 rfl (lv_room (Nat.le_of_ble_eq_true rfl)) dX0_add_24 ⟨Nat.zero_le _, Nat.zero_le _⟩) hS (fun H locs hP hD hT hS => ?_)
      refine lv_icmp_lt (tgt := 32) hx hb dX0_add_27 rfl (fun c6 => ?_) (fun c6 => ?_)
      · replace h := ite_t c6 h
        refine lv_aload_n hx hb dX0_add_32 rfl (lv_at hl 1 rfl) ?_
        rcases hN7 : gR M a0 7 with _ | b7
        · exact absurd (oc_n hN7 h) (by simp)
        replace h := oc_s hN7 h
        have kb7 := hT.f k0 (k := 7) (t := 15) (n := 10) rfl hN7
        refine r_get (T := TX0) (v := .ref (ad b7)) hx hb hts in0 hown hK hP k0 (by decide) rfl 7 (by decide) (hts (.fieldLink RX0 50 "StoneWalk$Island" "counts" "[I") (List.mem_of_getElem? (i := 1) (by decide +kernel))) rfl (t := 2) rfl (by show va_rf _ = _; rw [hN7]; rfl) dX0_add_33 ?_
        refine lv_iload_n hx hb dX0_add_36 rfl (lv_at hl 2 rfl) ?_
        refine lv_iload_n hx hb dX0_add_37 rfl (lv_at hl 0 rfl) ?_
        refine lv_iconst (v := 1) hx hb dX0_add_38 rfl ?_
        refine lv_iadd hx hb dX0_add_39 ?_
        obtain ⟨hn8, h⟩ := chk_some h
        refine r_iast hx hb hK hP hD hT hS kb7 hn8 dX0_add_40 (fun H locs hP hD hT hS => ?_)
        refine lv_iload_n hx hb dX0_add_41 rfl (lv_at hl 0 rfl) ?_
        exact r_iret hx hb hr hlocks hP hK hD hT hG hS (congrArg Prod.fst (Option.some.inj h)) (congrArg Prod.snd (Option.some.inj h)) dX0_add_42
      · replace h := ite_f c6 h
        refine lv_iconst (v := (-1)) hx hb dX0_add_30 rfl ?_
        exact r_iret hx hb hr hlocks hP hK hD hT hG hS (congrArg Prod.fst (Option.some.inj h)) (congrArg Prod.snd (Option.some.inj h)) dX0_add_31
set_option maxHeartbeats 4000000 in
set_option maxRecDepth 100000 in
theorem c_X0_has {l : Launch} {D : va_G} {ad : Nat → Nat} {cy : Nat → ClassId} {A : Nat → Prop} {g : CG} {q : SE} (M : MM) (a0 : Nat) (x1 : Int32) (x2 : Int32) (k0 : ok g a0 0 0) {Z : Int32} (h : f_X0_has M a0 x1 x2 = some Z) : Met l yX0_has wsX0_has ({ frames := 2, cells := 0, slots := 0, locals := 42 }) (va_Pc [.ref (ad a0), .int x1, .int x2] (Wd D ad cy A g q M)) (va_Qi (fun r u => r = Z ∧ u = M ∧ zb r) (Wd D ad cy A g q) A) 0 0 A := by
  refine Met.ofW (cc := cX0_has) (maxL := 3) (ret := (some .boolean)) (by decide) rfl ?_
  intro p e s m args below meth c s₁ B hml hv
  obtain ⟨rfl, hP, hK, hD, hT, hG⟩ := hv
  have hx := B.exec
  have hb := B.bytes
  have hr := B.returns
  have hts := atoms_spec (ws := wsX0_has) B.pre
  have hown : s.vm.findClass RX0 = some m.cls := findClass_of_methodNamed B.named
  have hlocks := B.notSynchronized
  have hS : va_S A s.heap s.heap [] := va_S.rf
  have hl := lv_entry ([.ref (ad a0), .int x1, .int x2]) (n := 3) (Nat.le_of_ble_eq_true rfl)
  rw [lg_entry_eq]
  generalize (lg_sl ([.ref (ad a0), .int x1, .int x2]) ++ List.replicate (3 - (lg_sl ([.ref (ad a0), .int x1, .int x2])).length) Slot.unset).toArray = ls at hl ⊢
  have hl : lv_has ls 3 [(0, .ref (ad a0)), (1, .int x1), (2, .int x2)] := hl
  unfold f_X0_has at h
  refine lv_iload_n hx hb dX0_has_0 rfl (lv_at hl 2 rfl) ?_
  refine lv_if_lt (tgt := 17) hx hb dX0_has_1 rfl (fun c1 => ?_) (fun c1 => ?_)
  · replace h := ite_t c1 h
    refine lv_iconst (v := 0) hx hb dX0_has_17 rfl ?_
    exact r_zret hx hb hr hlocks hP hK hD hT hG hS zb_0 (Option.some.inj h) rfl dX0_has_18
  · replace h := ite_f c1 h
    refine lv_iload_n hx hb dX0_has_4 rfl (lv_at hl 2 rfl) ?_
    refine lv_aload_n hx hb dX0_has_5 rfl (lv_at hl 0 rfl) ?_
    refine lv_iload_n hx hb dX0_has_6 rfl (lv_at hl 1 rfl) ?_
    obtain ⟨z2, h2, h⟩ := ob_some h
    refine k_i (va_runV (As := [.int x1]) (rest := [.int x2]) ⟨hx, hb, hml, hown, hts⟩ (c_X0_count (l := l) M a0 x1 k0 h2) (cwV 1 hts gX0_has_X0_count rfl rfl rfl hdV_X0_count ⟨Nat.le_of_ble_eq_true rfl, Nat.le_of_ble_eq_true rfl⟩) (pV (T := TX0) hP hK hD hT hG hS k0 (by decide) rfl) rfl rfl hl.1 rfl (lv_room (Nat.le_of_ble_eq_true rfl)) dX0_has_7 ⟨Nat.zero_le _, Nat.zero_le _⟩) hS (fun H locs hP hD hT hS => ?_)
    refine lv_icmp_ge (tgt := 17) hx hb dX0_has_10 rfl (fun c3 => ?_) (fun c3 => ?_)
    · replace h := ite_t c3 h
      refine lv_iconst (v := 0) hx hb dX0_has_17 rfl ?_
      exact r_zret hx hb hr hlocks hP hK hD hT hG hS zb_0 (Option.some.inj h) rfl dX0_has_18
    · replace h := ite_f c3 h
      refine lv_iconst (v := 1) hx hb dX0_has_13 rfl ?_
      refine lv_goto (tgt := 18) hx hb dX0_has_14 rfl ?_
      exact r_zret hx hb hr hlocks hP hK hD hT hG hS zb_1 (Option.some.inj h) rfl dX0_has_18
set_option maxHeartbeats 4000000 in
set_option maxRecDepth 100000 in
theorem c_X0_isBare {l : Launch} {D : va_G} {ad : Nat → Nat} {cy : Nat → ClassId} {A : Nat → Prop} {g : CG} {q : SE} (M : MM) (a0 : Nat) (k0 : ok g a0 0 0) {Z : Int32} (h : f_X0_isBare M a0 = some Z) : Met l yX0_isBare wsX0_isBare ({ frames := 2, cells := 0, slots := 0, locals := 42 }) (va_Pc [.ref (ad a0)] (Wd D ad cy A g q M)) (va_Qi (fun r u => r = Z ∧ u = M ∧ zb r) (Wd D ad cy A g q) A) 0 0 A := by
  refine Met.ofW (cc := cX0_isBare) (maxL := 1) (ret := (some .boolean)) (by decide) rfl ?_
  intro p e s m args below meth c s₁ B hml hv
  obtain ⟨rfl, hP, hK, hD, hT, hG⟩ := hv
  have hx := B.exec
  have hb := B.bytes
  have hr := B.returns
  have hts := atoms_spec (ws := wsX0_isBare) B.pre
  have hown : s.vm.findClass RX0 = some m.cls := findClass_of_methodNamed B.named
  have hlocks := B.notSynchronized
  have hS : va_S A s.heap s.heap [] := va_S.rf
  have hl := lv_entry ([.ref (ad a0)]) (n := 1) (Nat.le_of_ble_eq_true rfl)
  rw [lg_entry_eq]
  generalize (lg_sl ([.ref (ad a0)]) ++ List.replicate (1 - (lg_sl ([.ref (ad a0)])).length) Slot.unset).toArray = ls at hl ⊢
  have hl : lv_has ls 1 [(0, .ref (ad a0))] := hl
  unfold f_X0_isBare at h
  refine lv_aload_n hx hb dX0_isBare_0 rfl (lv_at hl 0 rfl) ?_
  refine lv_iconst (v := 2) hx hb dX0_isBare_1 rfl ?_
  obtain ⟨z1, h1, h⟩ := ob_some h
  refine k_i (va_runV (As := [.int 2]) (rest := []) ⟨hx, hb, hml, hown, hts⟩ (c_X0_count (l := l) M a0 2 k0 h1) (cwV 1 hts gX0_isBare_X0_count rfl rfl rfl hdV_X0_count ⟨Nat.le_of_ble_eq_true rfl, Nat.le_of_ble_eq_true rfl⟩) (pV (T := TX0) hP hK hD hT hG hS k0 (by decide) rfl) rfl rfl hl.1 rfl (lv_room (Nat.le_of_ble_eq_true rfl)) dX0_isBare_2 ⟨Nat.zero_le _, Nat.zero_le _⟩) hS (fun H locs hP hD hT hS => ?_)
  refine lv_if_ne (tgt := 12) hx hb dX0_isBare_5 rfl (fun c2 => ?_) (fun c2 => ?_)
  · replace h := ite_f c2 h
    refine lv_iconst (v := 0) hx hb dX0_isBare_12 rfl ?_
    exact r_zret hx hb hr hlocks hP hK hD hT hG hS zb_0 (Option.some.inj h) rfl dX0_isBare_13
  · replace h := ite_t c2 h
    refine lv_iconst (v := 1) hx hb dX0_isBare_8 rfl ?_
    refine lv_goto (tgt := 13) hx hb dX0_isBare_9 rfl ?_
    exact r_zret hx hb hr hlocks hP hK hD hT hG hS zb_1 (Option.some.inj h) rfl dX0_isBare_13
set_option maxHeartbeats 4000000 in
set_option maxRecDepth 100000 in
theorem c_X0_lacksAny {l : Launch} {D : va_G} {ad : Nat → Nat} {cy : Nat → ClassId} {A : Nat → Prop} {g : CG} {q : SE} (M : MM) (a0 : Nat) (k0 : ok g a0 0 0) {Z : Int32} (h : f_X0_lacksAny M a0 = some Z) : Met l yX0_lacksAny wsX0_lacksAny ({ frames := 2, cells := 0, slots := 0, locals := 42 }) (va_Pc [.ref (ad a0)] (Wd D ad cy A g q M)) (va_Qi (fun r u => r = Z ∧ u = M ∧ zb r) (Wd D ad cy A g q) A) 0 0 A := by
  refine Met.ofW (cc := cX0_lacksAny) (maxL := 1) (ret := (some .boolean)) (by decide) rfl ?_
  intro p e s m args below meth c s₁ B hml hv
  obtain ⟨rfl, hP, hK, hD, hT, hG⟩ := hv
  have hx := B.exec
  have hb := B.bytes
  have hr := B.returns
  have hts := atoms_spec (ws := wsX0_lacksAny) B.pre
  have hown : s.vm.findClass RX0 = some m.cls := findClass_of_methodNamed B.named
  have hlocks := B.notSynchronized
  have hS : va_S A s.heap s.heap [] := va_S.rf
  have hl := lv_entry ([.ref (ad a0)]) (n := 1) (Nat.le_of_ble_eq_true rfl)
  rw [lg_entry_eq]
  generalize (lg_sl ([.ref (ad a0)]) ++ List.replicate (1 - (lg_sl ([.ref (ad a0)])).length) Slot.unset).toArray = ls at hl ⊢
  have hl : lv_has ls 1 [(0, .ref (ad a0))] := hl
  unfold f_X0_lacksAny at h
  refine lv_aload_n hx hb dX0_lacksAny_0 rfl (lv_at hl 0 rfl) ?_
  refine lv_iconst (v := 0) hx hb dX0_lacksAny_1 rfl ?_
  obtain ⟨z1, h1, h⟩ := ob_some h
  refine k_i (va_runV (As := [.int 0]) (rest := []) ⟨hx, hb, hml, hown, hts⟩ (c_X0_count (l := l) M a0 0 k0 h1) (cwV 1 hts gX0_lacksAny_X0_count rfl rfl rfl hdV_X0_count ⟨Nat.le_of_ble_eq_true rfl, Nat.le_of_ble_eq_true rfl⟩) (pV (T := TX0) hP hK hD hT hG hS k0 (by decide) rfl) rfl rfl hl.1 rfl (lv_room (Nat.le_of_ble_eq_true rfl)) dX0_lacksAny_2 ⟨Nat.zero_le _, Nat.zero_le _⟩) hS (fun H locs hP hD hT hS => ?_)
  refine lv_if_eq (tgt := 24) hx hb dX0_lacksAny_5 rfl (fun c2 => ?_) (fun c2 => ?_)
  · replace h := ite_t c2 h
    refine lv_iconst (v := 1) hx hb dX0_lacksAny_24 rfl ?_
    refine lv_goto (tgt := 29) hx hb dX0_lacksAny_25 rfl ?_
    exact r_zret hx hb hr hlocks hP hK hD hT hG hS zb_1 (Option.some.inj h) rfl dX0_lacksAny_29
  · replace h := ite_f c2 h
    refine lv_aload_n hx hb dX0_lacksAny_8 rfl (lv_at hl 0 rfl) ?_
    refine lv_iconst (v := 1) hx hb dX0_lacksAny_9 rfl ?_
    obtain ⟨z3, h3, h⟩ := ob_some h
    refine k_i (va_runV (As := [.int 1]) (rest := []) ⟨hx, hb, hml, hown, hts⟩ (c_X0_count (l := l) M a0 1 k0 h3) (cwV 1 hts gX0_lacksAny_X0_count rfl rfl rfl hdV_X0_count ⟨Nat.le_of_ble_eq_true rfl, Nat.le_of_ble_eq_true rfl⟩) (pV (T := TX0) hP hK hD hT hG hS k0 (by decide) rfl) rfl rfl hl.1 rfl (lv_room (Nat.le_of_ble_eq_true rfl)) dX0_lacksAny_10 ⟨Nat.zero_le _, Nat.zero_le _⟩) hS (fun H locs hP hD hT hS => ?_)
    refine lv_if_eq (tgt := 24) hx hb dX0_lacksAny_13 rfl (fun c4 => ?_) (fun c4 => ?_)
    · replace h := ite_t c4 h
      refine lv_iconst (v := 1) hx hb dX0_lacksAny_24 rfl ?_
      refine lv_goto (tgt := 29) hx hb dX0_lacksAny_25 rfl ?_
      exact r_zret hx hb hr hlocks hP hK hD hT hG hS zb_1 (Option.some.inj h) rfl dX0_lacksAny_29
    · replace h := ite_f c4 h
      refine lv_aload_n hx hb dX0_lacksAny_16 rfl (lv_at hl 0 rfl) ?_
      refine lv_iconst (v := 2) hx hb dX0_lacksAny_17 rfl ?_
      obtain ⟨z5, h5, h⟩ := ob_some h
      refine k_i (va_runV (As := [.int 2]) (rest := []) ⟨hx, hb, hml, hown, hts⟩ (c_X0_count (l := l) M a0 2 k0 h5) (cwV 1 hts gX0_lacksAny_X0_count rfl rfl rfl hdV_X0_count ⟨Nat.le_of_ble_eq_true rfl, Nat.le_of_ble_eq_true rfl⟩) (pV (T := TX0) hP hK hD hT hG hS k0 (by decide) rfl) rfl rfl hl.1 rfl (lv_room (Nat.le_of_ble_eq_true rfl)) dX0_lacksAny_18 ⟨Nat.zero_le _, Nat.zero_le _⟩) hS (fun H locs hP hD hT hS => ?_)
      refine lv_if_ne (tgt := 28) hx hb dX0_lacksAny_21 rfl (fun c6 => ?_) (fun c6 => ?_)
      · replace h := ite_f c6 h
        refine lv_iconst (v := 0) hx hb dX0_lacksAny_28 rfl ?_
        exact r_zret hx hb hr hlocks hP hK hD hT hG hS zb_0 (Option.some.inj h) rfl dX0_lacksAny_29
      · replace h := ite_t c6 h
        refine lv_iconst (v := 1) hx hb dX0_lacksAny_24 rfl ?_
        refine lv_goto (tgt := 29) hx hb dX0_lacksAny_25 rfl ?_
        exact r_zret hx hb hr hlocks hP hK hD hT hG hS zb_1 (Option.some.inj h) rfl dX0_lacksAny_29
set_option maxHeartbeats 4000000 in
set_option maxRecDepth 100000 in
theorem c_X0_wayAt {l : Launch} {D : va_G} {ad : Nat → Nat} {cy : Nat → ClassId} {A : Nat → Prop} {g : CG} {q : SE} (M : MM) (a0 : Nat) (x1 : Int32) (k0 : ok g a0 0 0) {Z : (Option Nat)} (h : f_X0_wayAt M a0 x1 = some Z) : Met l yX0_wayAt wsX0_wayAt ({ frames := 0, cells := 0, slots := 0, locals := 0 }) (va_Pc [.ref (ad a0), .int x1] (Wd D ad cy A g q M)) (va_Qq (fun r u => r = Z.map ad ∧ u = M ∧ ∀ b, Z = some b → ok g b 10 0) (Wd D ad cy A g q) A) 0 0 A := by
  refine Met.ofW (cc := cX0_wayAt) (maxL := 2) (ret := (some (.object "StoneWalk$Way"))) (by decide) rfl ?_
  intro p e s m args below meth c s₁ B hml hv
  obtain ⟨rfl, hP, hK, hD, hT, hG⟩ := hv
  have hx := B.exec
  have hb := B.bytes
  have hr := B.returns
  have hts := atoms_spec (ws := wsX0_wayAt) B.pre
  have hown : s.vm.findClass RX0 = some m.cls := findClass_of_methodNamed B.named
  have hlocks := B.notSynchronized
  have in0 : ∀ w ∈ u_ws RX0 TX0 17, w ∈ wsX0_wayAt := fun w h => List.mem_cons_of_mem _ (List.mem_append_right _ h)
  have hS : va_S A s.heap s.heap [] := va_S.rf
  have hl := lv_entry ([.ref (ad a0), .int x1]) (n := 2) (Nat.le_of_ble_eq_true rfl)
  rw [lg_entry_eq]
  generalize (lg_sl ([.ref (ad a0), .int x1]) ++ List.replicate (2 - (lg_sl ([.ref (ad a0), .int x1])).length) Slot.unset).toArray = ls at hl ⊢
  have hl : lv_has ls 2 [(0, .ref (ad a0)), (1, .int x1)] := hl
  unfold f_X0_wayAt at h
  refine lv_iload_n hx hb dX0_wayAt_0 rfl (lv_at hl 1 rfl) ?_
  refine lv_if_lt (tgt := 32) hx hb dX0_wayAt_1 rfl (fun c1 => ?_) (fun c1 => ?_)
  · replace h := ite_t c1 h
    refine lv_null hx hb dX0_wayAt_32 ?_
    obtain rfl := Option.some.inj h
    exact r_aret (Z := none) (t0 := 10) hx hb hr hlocks hP hK hD hT hG hS rfl rfl (fun b hb => nomatch hb) dX0_wayAt_33
  · replace h := ite_f c1 h
    refine lv_iload_n hx hb dX0_wayAt_4 rfl (lv_at hl 1 rfl) ?_
    refine lv_aload_n hx hb dX0_wayAt_5 rfl (lv_at hl 0 rfl) ?_
    rcases hN2 : gR M a0 7 with _ | b2
    · exact absurd (oc_n hN2 h) (by simp)
    replace h := oc_s hN2 h
    have kb2 := hT.f k0 (k := 7) (t := 15) (n := 10) rfl hN2
    refine r_get (T := TX0) (v := .ref (ad b2)) hx hb hts in0 hown hK hP k0 (by decide) rfl 7 (by decide) (hts (.fieldLink RX0 50 "StoneWalk$Island" "counts" "[I") (List.mem_of_getElem? (i := 1) (by decide +kernel))) rfl (t := 2) rfl (by show va_rf _ = _; rw [hN2]; rfl) dX0_wayAt_6 ?_
    refine lv_iconst (v := 0) hx hb dX0_wayAt_9 rfl ?_
    refine r_iald hx hb hK hP kb2 (by decide) dX0_wayAt_10 ?_
    refine lv_icmp_ge (tgt := 32) hx hb dX0_wayAt_11 rfl (fun c3 => ?_) (fun c3 => ?_)
    · replace h := ite_t c3 h
      refine lv_null hx hb dX0_wayAt_32 ?_
      obtain rfl := Option.some.inj h
      exact r_aret (Z := none) (t0 := 10) hx hb hr hlocks hP hK hD hT hG hS rfl rfl (fun b hb => nomatch hb) dX0_wayAt_33
    · replace h := ite_f c3 h
      refine lv_iload_n hx hb dX0_wayAt_14 rfl (lv_at hl 1 rfl) ?_
      refine lv_aload_n hx hb dX0_wayAt_15 rfl (lv_at hl 0 rfl) ?_
      rcases hN4 : gR M a0 0 with _ | b4
      · exact absurd (oc_n hN4 h) (by simp)
      replace h := oc_s hN4 h
      have kb4 := hT.f k0 (k := 0) (t := 23) (n := 4) rfl hN4
      refine r_get (T := TX0) (v := .ref (ad b4)) hx hb hts in0 hown hK hP k0 (by decide) rfl 0 (by decide) (hts (.fieldLink RX0 11 "StoneWalk$Island" "ways" "[LStoneWalk$Way;") (List.mem_of_getElem? (i := 2) (by decide +kernel))) rfl (t := 2) rfl (by show va_rf _ = _; rw [hN4]; rfl) dX0_wayAt_16 ?_
      refine r_alen (t0 := 9) (v := 4) hx hb hK hP kb4 (by decide) rfl rfl dX0_wayAt_19 ?_
      refine lv_icmp_ge (tgt := 32) hx hb dX0_wayAt_20 rfl (fun c5 => ?_) (fun c5 => ?_)
      · replace h := ite_t c5 h
        refine lv_null hx hb dX0_wayAt_32 ?_
        obtain rfl := Option.some.inj h
        exact r_aret (Z := none) (t0 := 10) hx hb hr hlocks hP hK hD hT hG hS rfl rfl (fun b hb => nomatch hb) dX0_wayAt_33
      · replace h := ite_f c5 h
        refine lv_aload_n hx hb dX0_wayAt_23 rfl (lv_at hl 0 rfl) ?_
        rcases hN6 : gR M a0 0 with _ | b6
        · exact absurd (oc_n hN6 h) (by simp)
        replace h := oc_s hN6 h
        have kb6 := hT.f k0 (k := 0) (t := 23) (n := 4) rfl hN6
        refine r_get (T := TX0) (v := .ref (ad b6)) hx hb hts in0 hown hK hP k0 (by decide) rfl 0 (by decide) (hts (.fieldLink RX0 11 "StoneWalk$Island" "ways" "[LStoneWalk$Way;") (List.mem_of_getElem? (i := 2) (by decide +kernel))) rfl (t := 2) rfl (by show va_rf _ = _; rw [hN6]; rfl) dX0_wayAt_24 ?_
        refine lv_iload_n hx hb dX0_wayAt_27 rfl (lv_at hl 1 rfl) ?_
        obtain ⟨hn7, h⟩ := chk_some h
        rcases hN7 : gR M b6 (ix x1) with _ | b7
        · exact absurd (oc_n hN7 h) (by simp)
        replace h := oc_s hN7 h
        have kb7 := hT.e kb6 (t := 10) rfl hN7
        refine r_aald (t0 := 9) hx hb hK hP kb6 ⟨by decide, by decide, by decide, by decide⟩ rfl hn7 hN7 dX0_wayAt_28 ?_
        refine lv_goto (tgt := 33) hx hb dX0_wayAt_29 rfl ?_
        obtain rfl := Option.some.inj h
        exact r_aret (Z := some b7) (t0 := 10) hx hb hr hlocks hP hK hD hT hG hS rfl rfl (fun b hb => by cases hb; exact kb7) dX0_wayAt_33
set_option maxHeartbeats 4000000 in
set_option maxRecDepth 100000 in
theorem c_X0_roadAt {l : Launch} {D : va_G} {ad : Nat → Nat} {cy : Nat → ClassId} {A : Nat → Prop} {g : CG} {q : SE} (M : MM) (a0 : Nat) (x1 : Int32) (k0 : ok g a0 0 0) {Z : (Option Nat)} (h : f_X0_roadAt M a0 x1 = some Z) : Met l yX0_roadAt wsX0_roadAt ({ frames := 0, cells := 0, slots := 0, locals := 0 }) (va_Pc [.ref (ad a0), .int x1] (Wd D ad cy A g q M)) (va_Qq (fun r u => r = Z.map ad ∧ u = M ∧ ∀ b, Z = some b → ok g b 3 0) (Wd D ad cy A g q) A) 0 0 A := by
  refine Met.ofW (cc := cX0_roadAt) (maxL := 2) (ret := (some (.object "StoneWalk$Road"))) (by decide) rfl ?_
  intro p e s m args below meth c s₁ B hml hv
  obtain ⟨rfl, hP, hK, hD, hT, hG⟩ := hv
  have hx := B.exec
  have hb := B.bytes
  have hr := B.returns
  have hts := atoms_spec (ws := wsX0_roadAt) B.pre
  have hown : s.vm.findClass RX0 = some m.cls := findClass_of_methodNamed B.named
  have hlocks := B.notSynchronized
  have in0 : ∀ w ∈ u_ws RX0 TX0 17, w ∈ wsX0_roadAt := fun w h => List.mem_cons_of_mem _ (List.mem_append_right _ h)
  have hS : va_S A s.heap s.heap [] := va_S.rf
  have hl := lv_entry ([.ref (ad a0), .int x1]) (n := 2) (Nat.le_of_ble_eq_true rfl)
  rw [lg_entry_eq]
  generalize (lg_sl ([.ref (ad a0), .int x1]) ++ List.replicate (2 - (lg_sl ([.ref (ad a0), .int x1])).length) Slot.unset).toArray = ls at hl ⊢
  have hl : lv_has ls 2 [(0, .ref (ad a0)), (1, .int x1)] := hl
  unfold f_X0_roadAt at h
  refine lv_iload_n hx hb dX0_roadAt_0 rfl (lv_at hl 1 rfl) ?_
  refine lv_if_lt (tgt := 32) hx hb dX0_roadAt_1 rfl (fun c1 => ?_) (fun c1 => ?_)
  · replace h := ite_t c1 h
    refine lv_null hx hb dX0_roadAt_32 ?_
    obtain rfl := Option.some.inj h
    exact r_aret (Z := none) (t0 := 3) hx hb hr hlocks hP hK hD hT hG hS rfl rfl (fun b hb => nomatch hb) dX0_roadAt_33
  · replace h := ite_f c1 h
    refine lv_iload_n hx hb dX0_roadAt_4 rfl (lv_at hl 1 rfl) ?_
    refine lv_aload_n hx hb dX0_roadAt_5 rfl (lv_at hl 0 rfl) ?_
    rcases hN2 : gR M a0 7 with _ | b2
    · exact absurd (oc_n hN2 h) (by simp)
    replace h := oc_s hN2 h
    have kb2 := hT.f k0 (k := 7) (t := 15) (n := 10) rfl hN2
    refine r_get (T := TX0) (v := .ref (ad b2)) hx hb hts in0 hown hK hP k0 (by decide) rfl 7 (by decide) (hts (.fieldLink RX0 50 "StoneWalk$Island" "counts" "[I") (List.mem_of_getElem? (i := 1) (by decide +kernel))) rfl (t := 2) rfl (by show va_rf _ = _; rw [hN2]; rfl) dX0_roadAt_6 ?_
    refine lv_iconst (v := 1) hx hb dX0_roadAt_9 rfl ?_
    refine r_iald hx hb hK hP kb2 (by decide) dX0_roadAt_10 ?_
    refine lv_icmp_ge (tgt := 32) hx hb dX0_roadAt_11 rfl (fun c3 => ?_) (fun c3 => ?_)
    · replace h := ite_t c3 h
      refine lv_null hx hb dX0_roadAt_32 ?_
      obtain rfl := Option.some.inj h
      exact r_aret (Z := none) (t0 := 3) hx hb hr hlocks hP hK hD hT hG hS rfl rfl (fun b hb => nomatch hb) dX0_roadAt_33
    · replace h := ite_f c3 h
      refine lv_iload_n hx hb dX0_roadAt_14 rfl (lv_at hl 1 rfl) ?_
      refine lv_aload_n hx hb dX0_roadAt_15 rfl (lv_at hl 0 rfl) ?_
      rcases hN4 : gR M a0 1 with _ | b4
      · exact absurd (oc_n hN4 h) (by simp)
      replace h := oc_s hN4 h
      have kb4 := hT.f k0 (k := 1) (t := 18) (n := 3) rfl hN4
      refine r_get (T := TX0) (v := .ref (ad b4)) hx hb hts in0 hown hK hP k0 (by decide) rfl 1 (by decide) (hts (.fieldLink RX0 19 "StoneWalk$Island" "roads" "[LStoneWalk$Road;") (List.mem_of_getElem? (i := 2) (by decide +kernel))) rfl (t := 2) rfl (by show va_rf _ = _; rw [hN4]; rfl) dX0_roadAt_16 ?_
      refine r_alen (t0 := 4) (v := 3) hx hb hK hP kb4 (by decide) rfl rfl dX0_roadAt_19 ?_
      refine lv_icmp_ge (tgt := 32) hx hb dX0_roadAt_20 rfl (fun c5 => ?_) (fun c5 => ?_)
      · replace h := ite_t c5 h
        refine lv_null hx hb dX0_roadAt_32 ?_
        obtain rfl := Option.some.inj h
        exact r_aret (Z := none) (t0 := 3) hx hb hr hlocks hP hK hD hT hG hS rfl rfl (fun b hb => nomatch hb) dX0_roadAt_33
      · replace h := ite_f c5 h
        refine lv_aload_n hx hb dX0_roadAt_23 rfl (lv_at hl 0 rfl) ?_
        rcases hN6 : gR M a0 1 with _ | b6
        · exact absurd (oc_n hN6 h) (by simp)
        replace h := oc_s hN6 h
        have kb6 := hT.f k0 (k := 1) (t := 18) (n := 3) rfl hN6
        refine r_get (T := TX0) (v := .ref (ad b6)) hx hb hts in0 hown hK hP k0 (by decide) rfl 1 (by decide) (hts (.fieldLink RX0 19 "StoneWalk$Island" "roads" "[LStoneWalk$Road;") (List.mem_of_getElem? (i := 2) (by decide +kernel))) rfl (t := 2) rfl (by show va_rf _ = _; rw [hN6]; rfl) dX0_roadAt_24 ?_
        refine lv_iload_n hx hb dX0_roadAt_27 rfl (lv_at hl 1 rfl) ?_
        obtain ⟨hn7, h⟩ := chk_some h
        rcases hN7 : gR M b6 (ix x1) with _ | b7
        · exact absurd (oc_n hN7 h) (by simp)
        replace h := oc_s hN7 h
        have kb7 := hT.e kb6 (t := 3) rfl hN7
        refine r_aald (t0 := 4) hx hb hK hP kb6 ⟨by decide, by decide, by decide, by decide⟩ rfl hn7 hN7 dX0_roadAt_28 ?_
        refine lv_goto (tgt := 33) hx hb dX0_roadAt_29 rfl ?_
        obtain rfl := Option.some.inj h
        exact r_aret (Z := some b7) (t0 := 3) hx hb hr hlocks hP hK hD hT hG hS rfl rfl (fun b hb => by cases hb; exact kb7) dX0_roadAt_33
set_option maxHeartbeats 4000000 in
set_option maxRecDepth 100000 in
theorem c_X0_statueAt {l : Launch} {D : va_G} {ad : Nat → Nat} {cy : Nat → ClassId} {A : Nat → Prop} {g : CG} {q : SE} (M : MM) (a0 : Nat) (x1 : Int32) (k0 : ok g a0 0 0) {Z : (Option Nat)} (h : f_X0_statueAt M a0 x1 = some Z) : Met l yX0_statueAt wsX0_statueAt ({ frames := 0, cells := 0, slots := 0, locals := 0 }) (va_Pc [.ref (ad a0), .int x1] (Wd D ad cy A g q M)) (va_Qq (fun r u => r = Z.map ad ∧ u = M ∧ ∀ b, Z = some b → ok g b 5 0) (Wd D ad cy A g q) A) 0 0 A := by
  refine Met.ofW (cc := cX0_statueAt) (maxL := 2) (ret := (some (.object "StoneWalk$Stone"))) (by decide) rfl ?_
  intro p e s m args below meth c s₁ B hml hv
  obtain ⟨rfl, hP, hK, hD, hT, hG⟩ := hv
  have hx := B.exec
  have hb := B.bytes
  have hr := B.returns
  have hts := atoms_spec (ws := wsX0_statueAt) B.pre
  have hown : s.vm.findClass RX0 = some m.cls := findClass_of_methodNamed B.named
  have hlocks := B.notSynchronized
  have in0 : ∀ w ∈ u_ws RX0 TX0 17, w ∈ wsX0_statueAt := fun w h => List.mem_cons_of_mem _ (List.mem_append_right _ h)
  have hS : va_S A s.heap s.heap [] := va_S.rf
  have hl := lv_entry ([.ref (ad a0), .int x1]) (n := 2) (Nat.le_of_ble_eq_true rfl)
  rw [lg_entry_eq]
  generalize (lg_sl ([.ref (ad a0), .int x1]) ++ List.replicate (2 - (lg_sl ([.ref (ad a0), .int x1])).length) Slot.unset).toArray = ls at hl ⊢
  have hl : lv_has ls 2 [(0, .ref (ad a0)), (1, .int x1)] := hl
  unfold f_X0_statueAt at h
  refine lv_iload_n hx hb dX0_statueAt_0 rfl (lv_at hl 1 rfl) ?_
  refine lv_if_lt (tgt := 32) hx hb dX0_statueAt_1 rfl (fun c1 => ?_) (fun c1 => ?_)
  · replace h := ite_t c1 h
    refine lv_null hx hb dX0_statueAt_32 ?_
    obtain rfl := Option.some.inj h
    exact r_aret (Z := none) (t0 := 5) hx hb hr hlocks hP hK hD hT hG hS rfl rfl (fun b hb => nomatch hb) dX0_statueAt_33
  · replace h := ite_f c1 h
    refine lv_iload_n hx hb dX0_statueAt_4 rfl (lv_at hl 1 rfl) ?_
    refine lv_aload_n hx hb dX0_statueAt_5 rfl (lv_at hl 0 rfl) ?_
    rcases hN2 : gR M a0 7 with _ | b2
    · exact absurd (oc_n hN2 h) (by simp)
    replace h := oc_s hN2 h
    have kb2 := hT.f k0 (k := 7) (t := 15) (n := 10) rfl hN2
    refine r_get (T := TX0) (v := .ref (ad b2)) hx hb hts in0 hown hK hP k0 (by decide) rfl 7 (by decide) (hts (.fieldLink RX0 50 "StoneWalk$Island" "counts" "[I") (List.mem_of_getElem? (i := 1) (by decide +kernel))) rfl (t := 2) rfl (by show va_rf _ = _; rw [hN2]; rfl) dX0_statueAt_6 ?_
    refine lv_iconst (v := 2) hx hb dX0_statueAt_9 rfl ?_
    refine r_iald hx hb hK hP kb2 (by decide) dX0_statueAt_10 ?_
    refine lv_icmp_ge (tgt := 32) hx hb dX0_statueAt_11 rfl (fun c3 => ?_) (fun c3 => ?_)
    · replace h := ite_t c3 h
      refine lv_null hx hb dX0_statueAt_32 ?_
      obtain rfl := Option.some.inj h
      exact r_aret (Z := none) (t0 := 5) hx hb hr hlocks hP hK hD hT hG hS rfl rfl (fun b hb => nomatch hb) dX0_statueAt_33
    · replace h := ite_f c3 h
      refine lv_iload_n hx hb dX0_statueAt_14 rfl (lv_at hl 1 rfl) ?_
      refine lv_aload_n hx hb dX0_statueAt_15 rfl (lv_at hl 0 rfl) ?_
      rcases hN4 : gR M a0 2 with _ | b4
      · exact absurd (oc_n hN4 h) (by simp)
      replace h := oc_s hN4 h
      have kb4 := hT.f k0 (k := 2) (t := 19) (n := 10) rfl hN4
      refine r_get (T := TX0) (v := .ref (ad b4)) hx hb hts in0 hown hK hP k0 (by decide) rfl 2 (by decide) (hts (.fieldLink RX0 25 "StoneWalk$Island" "statues" "[LStoneWalk$Stone;") (List.mem_of_getElem? (i := 2) (by decide +kernel))) rfl (t := 2) rfl (by show va_rf _ = _; rw [hN4]; rfl) dX0_statueAt_16 ?_
      refine r_alen (t0 := 5) (v := 10) hx hb hK hP kb4 (by decide) rfl rfl dX0_statueAt_19 ?_
      refine lv_icmp_ge (tgt := 32) hx hb dX0_statueAt_20 rfl (fun c5 => ?_) (fun c5 => ?_)
      · replace h := ite_t c5 h
        refine lv_null hx hb dX0_statueAt_32 ?_
        obtain rfl := Option.some.inj h
        exact r_aret (Z := none) (t0 := 5) hx hb hr hlocks hP hK hD hT hG hS rfl rfl (fun b hb => nomatch hb) dX0_statueAt_33
      · replace h := ite_f c5 h
        refine lv_aload_n hx hb dX0_statueAt_23 rfl (lv_at hl 0 rfl) ?_
        rcases hN6 : gR M a0 2 with _ | b6
        · exact absurd (oc_n hN6 h) (by simp)
        replace h := oc_s hN6 h
        have kb6 := hT.f k0 (k := 2) (t := 19) (n := 10) rfl hN6
        refine r_get (T := TX0) (v := .ref (ad b6)) hx hb hts in0 hown hK hP k0 (by decide) rfl 2 (by decide) (hts (.fieldLink RX0 25 "StoneWalk$Island" "statues" "[LStoneWalk$Stone;") (List.mem_of_getElem? (i := 2) (by decide +kernel))) rfl (t := 2) rfl (by show va_rf _ = _; rw [hN6]; rfl) dX0_statueAt_24 ?_
        refine lv_iload_n hx hb dX0_statueAt_27 rfl (lv_at hl 1 rfl) ?_
        obtain ⟨hn7, h⟩ := chk_some h
        rcases hN7 : gR M b6 (ix x1) with _ | b7
        · exact absurd (oc_n hN7 h) (by simp)
        replace h := oc_s hN7 h
        have kb7 := hT.e kb6 (t := 5) rfl hN7
        refine r_aald (t0 := 5) hx hb hK hP kb6 ⟨by decide, by decide, by decide, by decide⟩ rfl hn7 hN7 dX0_statueAt_28 ?_
        refine lv_goto (tgt := 33) hx hb dX0_statueAt_29 rfl ?_
        obtain rfl := Option.some.inj h
        exact r_aret (Z := some b7) (t0 := 5) hx hb hr hlocks hP hK hD hT hG hS rfl rfl (fun b hb => by cases hb; exact kb7) dX0_statueAt_33
set_option maxHeartbeats 4000000 in
set_option maxRecDepth 100000 in
theorem c_X0_trialAt {l : Launch} {D : va_G} {ad : Nat → Nat} {cy : Nat → ClassId} {A : Nat → Prop} {g : CG} {q : SE} (M : MM) (a0 : Nat) (x1 : Int32) (k0 : ok g a0 0 0) {Z : (Option Nat)} (h : f_X0_trialAt M a0 x1 = some Z) : Met l yX0_trialAt wsX0_trialAt ({ frames := 0, cells := 0, slots := 0, locals := 0 }) (va_Pc [.ref (ad a0), .int x1] (Wd D ad cy A g q M)) (va_Qq (fun r u => r = Z.map ad ∧ u = M ∧ ∀ b, Z = some b → ok g b 9 0) (Wd D ad cy A g q) A) 0 0 A := by
  refine Met.ofW (cc := cX0_trialAt) (maxL := 2) (ret := (some (.object "StoneWalk$Trial"))) (by decide) rfl ?_
  intro p e s m args below meth c s₁ B hml hv
  obtain ⟨rfl, hP, hK, hD, hT, hG⟩ := hv
  have hx := B.exec
  have hb := B.bytes
  have hr := B.returns
  have hts := atoms_spec (ws := wsX0_trialAt) B.pre
  have hown : s.vm.findClass RX0 = some m.cls := findClass_of_methodNamed B.named
  have hlocks := B.notSynchronized
  have in0 : ∀ w ∈ u_ws RX0 TX0 17, w ∈ wsX0_trialAt := fun w h => List.mem_cons_of_mem _ (List.mem_append_right _ h)
  have hS : va_S A s.heap s.heap [] := va_S.rf
  have hl := lv_entry ([.ref (ad a0), .int x1]) (n := 2) (Nat.le_of_ble_eq_true rfl)
  rw [lg_entry_eq]
  generalize (lg_sl ([.ref (ad a0), .int x1]) ++ List.replicate (2 - (lg_sl ([.ref (ad a0), .int x1])).length) Slot.unset).toArray = ls at hl ⊢
  have hl : lv_has ls 2 [(0, .ref (ad a0)), (1, .int x1)] := hl
  unfold f_X0_trialAt at h
  refine lv_iload_n hx hb dX0_trialAt_0 rfl (lv_at hl 1 rfl) ?_
  refine lv_if_lt (tgt := 32) hx hb dX0_trialAt_1 rfl (fun c1 => ?_) (fun c1 => ?_)
  · replace h := ite_t c1 h
    refine lv_null hx hb dX0_trialAt_32 ?_
    obtain rfl := Option.some.inj h
    exact r_aret (Z := none) (t0 := 9) hx hb hr hlocks hP hK hD hT hG hS rfl rfl (fun b hb => nomatch hb) dX0_trialAt_33
  · replace h := ite_f c1 h
    refine lv_iload_n hx hb dX0_trialAt_4 rfl (lv_at hl 1 rfl) ?_
    refine lv_aload_n hx hb dX0_trialAt_5 rfl (lv_at hl 0 rfl) ?_
    rcases hN2 : gR M a0 7 with _ | b2
    · exact absurd (oc_n hN2 h) (by simp)
    replace h := oc_s hN2 h
    have kb2 := hT.f k0 (k := 7) (t := 15) (n := 10) rfl hN2
    refine r_get (T := TX0) (v := .ref (ad b2)) hx hb hts in0 hown hK hP k0 (by decide) rfl 7 (by decide) (hts (.fieldLink RX0 50 "StoneWalk$Island" "counts" "[I") (List.mem_of_getElem? (i := 1) (by decide +kernel))) rfl (t := 2) rfl (by show va_rf _ = _; rw [hN2]; rfl) dX0_trialAt_6 ?_
    refine lv_iconst (v := 3) hx hb dX0_trialAt_9 rfl ?_
    refine r_iald hx hb hK hP kb2 (by decide) dX0_trialAt_10 ?_
    refine lv_icmp_ge (tgt := 32) hx hb dX0_trialAt_11 rfl (fun c3 => ?_) (fun c3 => ?_)
    · replace h := ite_t c3 h
      refine lv_null hx hb dX0_trialAt_32 ?_
      obtain rfl := Option.some.inj h
      exact r_aret (Z := none) (t0 := 9) hx hb hr hlocks hP hK hD hT hG hS rfl rfl (fun b hb => nomatch hb) dX0_trialAt_33
    · replace h := ite_f c3 h
      refine lv_iload_n hx hb dX0_trialAt_14 rfl (lv_at hl 1 rfl) ?_
      refine lv_aload_n hx hb dX0_trialAt_15 rfl (lv_at hl 0 rfl) ?_
      rcases hN4 : gR M a0 3 with _ | b4
      · exact absurd (oc_n hN4 h) (by simp)
      replace h := oc_s hN4 h
      have kb4 := hT.f k0 (k := 3) (t := 22) (n := 5) rfl hN4
      refine r_get (T := TX0) (v := .ref (ad b4)) hx hb hts in0 hown hK hP k0 (by decide) rfl 3 (by decide) (hts (.fieldLink RX0 31 "StoneWalk$Island" "trials" "[LStoneWalk$Trial;") (List.mem_of_getElem? (i := 2) (by decide +kernel))) rfl (t := 2) rfl (by show va_rf _ = _; rw [hN4]; rfl) dX0_trialAt_16 ?_
      refine r_alen (t0 := 8) (v := 5) hx hb hK hP kb4 (by decide) rfl rfl dX0_trialAt_19 ?_
      refine lv_icmp_ge (tgt := 32) hx hb dX0_trialAt_20 rfl (fun c5 => ?_) (fun c5 => ?_)
      · replace h := ite_t c5 h
        refine lv_null hx hb dX0_trialAt_32 ?_
        obtain rfl := Option.some.inj h
        exact r_aret (Z := none) (t0 := 9) hx hb hr hlocks hP hK hD hT hG hS rfl rfl (fun b hb => nomatch hb) dX0_trialAt_33
      · replace h := ite_f c5 h
        refine lv_aload_n hx hb dX0_trialAt_23 rfl (lv_at hl 0 rfl) ?_
        rcases hN6 : gR M a0 3 with _ | b6
        · exact absurd (oc_n hN6 h) (by simp)
        replace h := oc_s hN6 h
        have kb6 := hT.f k0 (k := 3) (t := 22) (n := 5) rfl hN6
        refine r_get (T := TX0) (v := .ref (ad b6)) hx hb hts in0 hown hK hP k0 (by decide) rfl 3 (by decide) (hts (.fieldLink RX0 31 "StoneWalk$Island" "trials" "[LStoneWalk$Trial;") (List.mem_of_getElem? (i := 2) (by decide +kernel))) rfl (t := 2) rfl (by show va_rf _ = _; rw [hN6]; rfl) dX0_trialAt_24 ?_
        refine lv_iload_n hx hb dX0_trialAt_27 rfl (lv_at hl 1 rfl) ?_
        obtain ⟨hn7, h⟩ := chk_some h
        rcases hN7 : gR M b6 (ix x1) with _ | b7
        · exact absurd (oc_n hN7 h) (by simp)
        replace h := oc_s hN7 h
        have kb7 := hT.e kb6 (t := 9) rfl hN7
        refine r_aald (t0 := 8) hx hb hK hP kb6 ⟨by decide, by decide, by decide, by decide⟩ rfl hn7 hN7 dX0_trialAt_28 ?_
        refine lv_goto (tgt := 33) hx hb dX0_trialAt_29 rfl ?_
        obtain rfl := Option.some.inj h
        exact r_aret (Z := some b7) (t0 := 9) hx hb hr hlocks hP hK hD hT hG hS rfl rfl (fun b hb => by cases hb; exact kb7) dX0_trialAt_33
set_option maxHeartbeats 4000000 in
set_option maxRecDepth 100000 in
theorem c_X0_storyAt {l : Launch} {D : va_G} {ad : Nat → Nat} {cy : Nat → ClassId} {A : Nat → Prop} {g : CG} {q : SE} (M : MM) (a0 : Nat) (x1 : Int32) (k0 : ok g a0 0 0) {Z : (Option Nat)} (h : f_X0_storyAt M a0 x1 = some Z) : Met l yX0_storyAt wsX0_storyAt ({ frames := 0, cells := 0, slots := 0, locals := 0 }) (va_Pc [.ref (ad a0), .int x1] (Wd D ad cy A g q M)) (va_Qq (fun r u => r = Z.map ad ∧ u = M ∧ ∀ b, Z = some b → ok g b 6 0) (Wd D ad cy A g q) A) 0 0 A := by
  refine Met.ofW (cc := cX0_storyAt) (maxL := 2) (ret := (some (.object "StoneWalk$Story"))) (by decide) rfl ?_
  intro p e s m args below meth c s₁ B hml hv
  obtain ⟨rfl, hP, hK, hD, hT, hG⟩ := hv
  have hx := B.exec
  have hb := B.bytes
  have hr := B.returns
  have hts := atoms_spec (ws := wsX0_storyAt) B.pre
  have hown : s.vm.findClass RX0 = some m.cls := findClass_of_methodNamed B.named
  have hlocks := B.notSynchronized
  have in0 : ∀ w ∈ u_ws RX0 TX0 17, w ∈ wsX0_storyAt := fun w h => List.mem_cons_of_mem _ (List.mem_append_right _ h)
  have hS : va_S A s.heap s.heap [] := va_S.rf
  have hl := lv_entry ([.ref (ad a0), .int x1]) (n := 2) (Nat.le_of_ble_eq_true rfl)
  rw [lg_entry_eq]
  generalize (lg_sl ([.ref (ad a0), .int x1]) ++ List.replicate (2 - (lg_sl ([.ref (ad a0), .int x1])).length) Slot.unset).toArray = ls at hl ⊢
  have hl : lv_has ls 2 [(0, .ref (ad a0)), (1, .int x1)] := hl
  unfold f_X0_storyAt at h
  refine lv_iload_n hx hb dX0_storyAt_0 rfl (lv_at hl 1 rfl) ?_
  refine lv_if_lt (tgt := 32) hx hb dX0_storyAt_1 rfl (fun c1 => ?_) (fun c1 => ?_)
  · replace h := ite_t c1 h
    refine lv_null hx hb dX0_storyAt_32 ?_
    obtain rfl := Option.some.inj h
    exact r_aret (Z := none) (t0 := 6) hx hb hr hlocks hP hK hD hT hG hS rfl rfl (fun b hb => nomatch hb) dX0_storyAt_33
  · replace h := ite_f c1 h
    refine lv_iload_n hx hb dX0_storyAt_4 rfl (lv_at hl 1 rfl) ?_
    refine lv_aload_n hx hb dX0_storyAt_5 rfl (lv_at hl 0 rfl) ?_
    rcases hN2 : gR M a0 7 with _ | b2
    · exact absurd (oc_n hN2 h) (by simp)
    replace h := oc_s hN2 h
    have kb2 := hT.f k0 (k := 7) (t := 15) (n := 10) rfl hN2
    refine r_get (T := TX0) (v := .ref (ad b2)) hx hb hts in0 hown hK hP k0 (by decide) rfl 7 (by decide) (hts (.fieldLink RX0 50 "StoneWalk$Island" "counts" "[I") (List.mem_of_getElem? (i := 1) (by decide +kernel))) rfl (t := 2) rfl (by show va_rf _ = _; rw [hN2]; rfl) dX0_storyAt_6 ?_
    refine lv_iconst (v := 4) hx hb dX0_storyAt_9 rfl ?_
    refine r_iald hx hb hK hP kb2 (by decide) dX0_storyAt_10 ?_
    refine lv_icmp_ge (tgt := 32) hx hb dX0_storyAt_11 rfl (fun c3 => ?_) (fun c3 => ?_)
    · replace h := ite_t c3 h
      refine lv_null hx hb dX0_storyAt_32 ?_
      obtain rfl := Option.some.inj h
      exact r_aret (Z := none) (t0 := 6) hx hb hr hlocks hP hK hD hT hG hS rfl rfl (fun b hb => nomatch hb) dX0_storyAt_33
    · replace h := ite_f c3 h
      refine lv_iload_n hx hb dX0_storyAt_14 rfl (lv_at hl 1 rfl) ?_
      refine lv_aload_n hx hb dX0_storyAt_15 rfl (lv_at hl 0 rfl) ?_
      rcases hN4 : gR M a0 4 with _ | b4
      · exact absurd (oc_n hN4 h) (by simp)
      replace h := oc_s hN4 h
      have kb4 := hT.f k0 (k := 4) (t := 20) (n := 5) rfl hN4
      refine r_get (T := TX0) (v := .ref (ad b4)) hx hb hts in0 hown hK hP k0 (by decide) rfl 4 (by decide) (hts (.fieldLink RX0 37 "StoneWalk$Island" "stories" "[LStoneWalk$Story;") (List.mem_of_getElem? (i := 2) (by decide +kernel))) rfl (t := 2) rfl (by show va_rf _ = _; rw [hN4]; rfl) dX0_storyAt_16 ?_
      refine r_alen (t0 := 6) (v := 5) hx hb hK hP kb4 (by decide) rfl rfl dX0_storyAt_19 ?_
      refine lv_icmp_ge (tgt := 32) hx hb dX0_storyAt_20 rfl (fun c5 => ?_) (fun c5 => ?_)
      · replace h := ite_t c5 h
        refine lv_null hx hb dX0_storyAt_32 ?_
        obtain rfl := Option.some.inj h
        exact r_aret (Z := none) (t0 := 6) hx hb hr hlocks hP hK hD hT hG hS rfl rfl (fun b hb => nomatch hb) dX0_storyAt_33
      · replace h := ite_f c5 h
        refine lv_aload_n hx hb dX0_storyAt_23 rfl (lv_at hl 0 rfl) ?_
        rcases hN6 : gR M a0 4 with _ | b6
        · exact absurd (oc_n hN6 h) (by simp)
        replace h := oc_s hN6 h
        have kb6 := hT.f k0 (k := 4) (t := 20) (n := 5) rfl hN6
        refine r_get (T := TX0) (v := .ref (ad b6)) hx hb hts in0 hown hK hP k0 (by decide) rfl 4 (by decide) (hts (.fieldLink RX0 37 "StoneWalk$Island" "stories" "[LStoneWalk$Story;") (List.mem_of_getElem? (i := 2) (by decide +kernel))) rfl (t := 2) rfl (by show va_rf _ = _; rw [hN6]; rfl) dX0_storyAt_24 ?_
        refine lv_iload_n hx hb dX0_storyAt_27 rfl (lv_at hl 1 rfl) ?_
        obtain ⟨hn7, h⟩ := chk_some h
        rcases hN7 : gR M b6 (ix x1) with _ | b7
        · exact absurd (oc_n hN7 h) (by simp)
        replace h := oc_s hN7 h
        have kb7 := hT.e kb6 (t := 6) rfl hN7
        refine r_aald (t0 := 6) hx hb hK hP kb6 ⟨by decide, by decide, by decide, by decide⟩ rfl hn7 hN7 dX0_storyAt_28 ?_
        refine lv_goto (tgt := 33) hx hb dX0_storyAt_29 rfl ?_
        obtain rfl := Option.some.inj h
        exact r_aret (Z := some b7) (t0 := 6) hx hb hr hlocks hP hK hD hT hG hS rfl rfl (fun b hb => by cases hb; exact kb7) dX0_storyAt_33
set_option maxHeartbeats 4000000 in
set_option maxRecDepth 100000 in
theorem c_X0_tellerAt {l : Launch} {D : va_G} {ad : Nat → Nat} {cy : Nat → ClassId} {A : Nat → Prop} {g : CG} {q : SE} (M : MM) (a0 : Nat) (x1 : Int32) (k0 : ok g a0 0 0) {Z : (Option Nat)} (h : f_X0_tellerAt M a0 x1 = some Z) : Met l yX0_tellerAt wsX0_tellerAt ({ frames := 0, cells := 0, slots := 0, locals := 0 }) (va_Pc [.ref (ad a0), .int x1] (Wd D ad cy A g q M)) (va_Qq (fun r u => r = Z.map ad ∧ u = M ∧ ∀ b, Z = some b → ok g b 8 0) (Wd D ad cy A g q) A) 0 0 A := by
  refine Met.ofW (cc := cX0_tellerAt) (maxL := 2) (ret := (some (.object "StoneWalk$Teller"))) (by decide) rfl ?_
  intro p e s m args below meth c s₁ B hml hv
  obtain ⟨rfl, hP, hK, hD, hT, hG⟩ := hv
  have hx := B.exec
  have hb := B.bytes
  have hr := B.returns
  have hts := atoms_spec (ws := wsX0_tellerAt) B.pre
  have hown : s.vm.findClass RX0 = some m.cls := findClass_of_methodNamed B.named
  have hlocks := B.notSynchronized
  have in0 : ∀ w ∈ u_ws RX0 TX0 17, w ∈ wsX0_tellerAt := fun w h => List.mem_cons_of_mem _ (List.mem_append_right _ h)
  have hS : va_S A s.heap s.heap [] := va_S.rf
  have hl := lv_entry ([.ref (ad a0), .int x1]) (n := 2) (Nat.le_of_ble_eq_true rfl)
  rw [lg_entry_eq]
  generalize (lg_sl ([.ref (ad a0), .int x1]) ++ List.replicate (2 - (lg_sl ([.ref (ad a0), .int x1])).length) Slot.unset).toArray = ls at hl ⊢
  have hl : lv_has ls 2 [(0, .ref (ad a0)), (1, .int x1)] := hl
  unfold f_X0_tellerAt at h
  refine lv_iload_n hx hb dX0_tellerAt_0 rfl (lv_at hl 1 rfl) ?_
  refine lv_if_lt (tgt := 32) hx hb dX0_tellerAt_1 rfl (fun c1 => ?_) (fun c1 => ?_)
  · replace h := ite_t c1 h
    refine lv_null hx hb dX0_tellerAt_32 ?_
    obtain rfl := Option.some.inj h
    exact r_aret (Z := none) (t0 := 8) hx hb hr hlocks hP hK hD hT hG hS rfl rfl (fun b hb => nomatch hb) dX0_tellerAt_33
  · replace h := ite_f c1 h
    refine lv_iload_n hx hb dX0_tellerAt_4 rfl (lv_at hl 1 rfl) ?_
    refine lv_aload_n hx hb dX0_tellerAt_5 rfl (lv_at hl 0 rfl) ?_
    rcases hN2 : gR M a0 7 with _ | b2
    · exact absurd (oc_n hN2 h) (by simp)
    replace h := oc_s hN2 h
    have kb2 := hT.f k0 (k := 7) (t := 15) (n := 10) rfl hN2
    refine r_get (T := TX0) (v := .ref (ad b2)) hx hb hts in0 hown hK hP k0 (by decide) rfl 7 (by decide) (hts (.fieldLink RX0 50 "StoneWalk$Island" "counts" "[I") (List.mem_of_getElem? (i := 1) (by decide +kernel))) rfl (t := 2) rfl (by show va_rf _ = _; rw [hN2]; rfl) dX0_tellerAt_6 ?_
    refine lv_iconst (v := 5) hx hb dX0_tellerAt_9 rfl ?_
    refine r_iald hx hb hK hP kb2 (by decide) dX0_tellerAt_10 ?_
    refine lv_icmp_ge (tgt := 32) hx hb dX0_tellerAt_11 rfl (fun c3 => ?_) (fun c3 => ?_)
    · replace h := ite_t c3 h
      refine lv_null hx hb dX0_tellerAt_32 ?_
      obtain rfl := Option.some.inj h
      exact r_aret (Z := none) (t0 := 8) hx hb hr hlocks hP hK hD hT hG hS rfl rfl (fun b hb => nomatch hb) dX0_tellerAt_33
    · replace h := ite_f c3 h
      refine lv_iload_n hx hb dX0_tellerAt_14 rfl (lv_at hl 1 rfl) ?_
      refine lv_aload_n hx hb dX0_tellerAt_15 rfl (lv_at hl 0 rfl) ?_
      rcases hN4 : gR M a0 5 with _ | b4
      · exact absurd (oc_n hN4 h) (by simp)
      replace h := oc_s hN4 h
      have kb4 := hT.f k0 (k := 5) (t := 21) (n := 3) rfl hN4
      refine r_get (T := TX0) (v := .ref (ad b4)) hx hb hts in0 hown hK hP k0 (by decide) rfl 5 (by decide) (hts (.fieldLink RX0 43 "StoneWalk$Island" "tellers" "[LStoneWalk$Teller;") (List.mem_of_getElem? (i := 2) (by decide +kernel))) rfl (t := 2) rfl (by show va_rf _ = _; rw [hN4]; rfl) dX0_tellerAt_16 ?_
      refine r_alen (t0 := 7) (v := 3) hx hb hK hP kb4 (by decide) rfl rfl dX0_tellerAt_19 ?_
      refine lv_icmp_ge (tgt := 32) hx hb dX0_tellerAt_20 rfl (fun c5 => ?_) (fun c5 => ?_)
      · replace h := ite_t c5 h
        refine lv_null hx hb dX0_tellerAt_32 ?_
        obtain rfl := Option.some.inj h
        exact r_aret (Z := none) (t0 := 8) hx hb hr hlocks hP hK hD hT hG hS rfl rfl (fun b hb => nomatch hb) dX0_tellerAt_33
      · replace h := ite_f c5 h
        refine lv_aload_n hx hb dX0_tellerAt_23 rfl (lv_at hl 0 rfl) ?_
        rcases hN6 : gR M a0 5 with _ | b6
        · exact absurd (oc_n hN6 h) (by simp)
        replace h := oc_s hN6 h
        have kb6 := hT.f k0 (k := 5) (t := 21) (n := 3) rfl hN6
        refine r_get (T := TX0) (v := .ref (ad b6)) hx hb hts in0 hown hK hP k0 (by decide) rfl 5 (by decide) (hts (.fieldLink RX0 43 "StoneWalk$Island" "tellers" "[LStoneWalk$Teller;") (List.mem_of_getElem? (i := 2) (by decide +kernel))) rfl (t := 2) rfl (by show va_rf _ = _; rw [hN6]; rfl) dX0_tellerAt_24 ?_
        refine lv_iload_n hx hb dX0_tellerAt_27 rfl (lv_at hl 1 rfl) ?_
        obtain ⟨hn7, h⟩ := chk_some h
        rcases hN7 : gR M b6 (ix x1) with _ | b7
        · exact absurd (oc_n hN7 h) (by simp)
        replace h := oc_s hN7 h
        have kb7 := hT.e kb6 (t := 8) rfl hN7
        refine r_aald (t0 := 7) hx hb hK hP kb6 ⟨by decide, by decide, by decide, by decide⟩ rfl hn7 hN7 dX0_tellerAt_28 ?_
        refine lv_goto (tgt := 33) hx hb dX0_tellerAt_29 rfl ?_
        obtain rfl := Option.some.inj h
        exact r_aret (Z := some b7) (t0 := 8) hx hb hr hlocks hP hK hD hT hG hS rfl rfl (fun b hb => by cases hb; exact kb7) dX0_tellerAt_33
set_option maxHeartbeats 4000000 in
set_option maxRecDepth 100000 in
theorem c_X0_thingAt {l : Launch} {D : va_G} {ad : Nat → Nat} {cy : Nat → ClassId} {A : Nat → Prop} {g : CG} {q : SE} (M : MM) (a0 : Nat) (x1 : Int32) (k0 : ok g a0 0 0) {Z : (Option Nat)} (h : f_X0_thingAt M a0 x1 = some Z) : Met l yX0_thingAt wsX0_thingAt ({ frames := 0, cells := 0, slots := 0, locals := 0 }) (va_Pc [.ref (ad a0), .int x1] (Wd D ad cy A g q M)) (va_Qq (fun r u => r = Z.map ad ∧ u = M ∧ ∀ b, Z = some b → ok g b 5 0) (Wd D ad cy A g q) A) 0 0 A := by
  refine Met.ofW (cc := cX0_thingAt) (maxL := 2) (ret := (some (.object "StoneWalk$Stone"))) (by decide) rfl ?_
  intro p e s m args below meth c s₁ B hml hv
  obtain ⟨rfl, hP, hK, hD, hT, hG⟩ := hv
  have hx := B.exec
  have hb := B.bytes
  have hr := B.returns
  have hts := atoms_spec (ws := wsX0_thingAt) B.pre
  have hown : s.vm.findClass RX0 = some m.cls := findClass_of_methodNamed B.named
  have hlocks := B.notSynchronized
  have in0 : ∀ w ∈ u_ws RX0 TX0 17, w ∈ wsX0_thingAt := fun w h => List.mem_cons_of_mem _ (List.mem_append_right _ h)
  have hS : va_S A s.heap s.heap [] := va_S.rf
  have hl := lv_entry ([.ref (ad a0), .int x1]) (n := 2) (Nat.le_of_ble_eq_true rfl)
  rw [lg_entry_eq]
  generalize (lg_sl ([.ref (ad a0), .int x1]) ++ List.replicate (2 - (lg_sl ([.ref (ad a0), .int x1])).length) Slot.unset).toArray = ls at hl ⊢
  have hl : lv_has ls 2 [(0, .ref (ad a0)), (1, .int x1)] := hl
  unfold f_X0_thingAt at h
  refine lv_iload_n hx hb dX0_thingAt_0 rfl (lv_at hl 1 rfl) ?_
  refine lv_if_lt (tgt := 33) hx hb dX0_thingAt_1 rfl (fun c1 => ?_) (fun c1 => ?_)
  · replace h := ite_t c1 h
    refine lv_null hx hb dX0_thingAt_33 ?_
    obtain rfl := Option.some.inj h
    exact r_aret (Z := none) (t0 := 5) hx hb hr hlocks hP hK hD hT hG hS rfl rfl (fun b hb => nomatch hb) dX0_thingAt_34
  · replace h := ite_f c1 h
    refine lv_iload_n hx hb dX0_thingAt_4 rfl (lv_at hl 1 rfl) ?_
    refine lv_aload_n hx hb dX0_thingAt_5 rfl (lv_at hl 0 rfl) ?_
    rcases hN2 : gR M a0 7 with _ | b2
    · exact absurd (oc_n hN2 h) (by simp)
    replace h := oc_s hN2 h
    have kb2 := hT.f k0 (k := 7) (t := 15) (n := 10) rfl hN2
    refine r_get (T := TX0) (v := .ref (ad b2)) hx hb hts in0 hown hK hP k0 (by decide) rfl 7 (by decide) (hts (.fieldLink RX0 50 "StoneWalk$Island" "counts" "[I") (List.mem_of_getElem? (i := 1) (by decide +kernel))) rfl (t := 2) rfl (by show va_rf _ = _; rw [hN2]; rfl) dX0_thingAt_6 ?_
    refine lv_bipush (v := 6) hx hb dX0_thingAt_9 rfl ?_
    refine r_iald hx hb hK hP kb2 (by decide) dX0_thingAt_11 ?_
    refine lv_icmp_ge (tgt := 33) hx hb dX0_thingAt_12 rfl (fun c3 => ?_) (fun c3 => ?_)
    · replace h := ite_t c3 h
      refine lv_null hx hb dX0_thingAt_33 ?_
      obtain rfl := Option.some.inj h
      exact r_aret (Z := none) (t0 := 5) hx hb hr hlocks hP hK hD hT hG hS rfl rfl (fun b hb => nomatch hb) dX0_thingAt_34
    · replace h := ite_f c3 h
      refine lv_iload_n hx hb dX0_thingAt_15 rfl (lv_at hl 1 rfl) ?_
      refine lv_aload_n hx hb dX0_thingAt_16 rfl (lv_at hl 0 rfl) ?_
      rcases hN4 : gR M a0 6 with _ | b4
      · exact absurd (oc_n hN4 h) (by simp)
      replace h := oc_s hN4 h
      have kb4 := hT.f k0 (k := 6) (t := 19) (n := 5) rfl hN4
      refine r_get (T := TX0) (v := .ref (ad b4)) hx hb hts in0 hown hK hP k0 (by decide) rfl 6 (by decide) (hts (.fieldLink RX0 47 "StoneWalk$Island" "things" "[LStoneWalk$Stone;") (List.mem_of_getElem? (i := 2) (by decide +kernel))) rfl (t := 2) rfl (by show va_rf _ = _; rw [hN4]; rfl) dX0_thingAt_17 ?_
      refine r_alen (t0 := 5) (v := 5) hx hb hK hP kb4 (by decide) rfl rfl dX0_thingAt_20 ?_
      refine lv_icmp_ge (tgt := 33) hx hb dX0_thingAt_21 rfl (fun c5 => ?_) (fun c5 => ?_)
      · replace h := ite_t c5 h
        refine lv_null hx hb dX0_thingAt_33 ?_
        obtain rfl := Option.some.inj h
        exact r_aret (Z := none) (t0 := 5) hx hb hr hlocks hP hK hD hT hG hS rfl rfl (fun b hb => nomatch hb) dX0_thingAt_34
      · replace h := ite_f c5 h
        refine lv_aload_n hx hb dX0_thingAt_24 rfl (lv_at hl 0 rfl) ?_
        rcases hN6 : gR M a0 6 with _ | b6
        · exact absurd (oc_n hN6 h) (by simp)
        replace h := oc_s hN6 h
        have kb6 := hT.f k0 (k := 6) (t := 19) (n := 5) rfl hN6
        refine r_get (T := TX0) (v := .ref (ad b6)) hx hb hts in0 hown hK hP k0 (by decide) rfl 6 (by decide) (hts (.fieldLink RX0 47 "StoneWalk$Island" "things" "[LStoneWalk$Stone;") (List.mem_of_getElem? (i := 2) (by decide +kernel))) rfl (t := 2) rfl (by show va_rf _ = _; rw [hN6]; rfl) dX0_thingAt_25 ?_
        refine lv_iload_n hx hb dX0_thingAt_28 rfl (lv_at hl 1 rfl) ?_
        obtain ⟨hn7, h⟩ := chk_some h
        rcases hN7 : gR M b6 (ix x1) with _ | b7
        · exact absurd (oc_n hN7 h) (by simp)
        replace h := oc_s hN7 h
        have kb7 := hT.e kb6 (t := 5) rfl hN7
        refine r_aald (t0 := 5) hx hb hK hP kb6 ⟨by decide, by decide, by decide, by decide⟩ rfl hn7 hN7 dX0_thingAt_29 ?_
        refine lv_goto (tgt := 34) hx hb dX0_thingAt_30 rfl ?_
        obtain rfl := Option.some.inj h
        exact r_aret (Z := some b7) (t0 := 5) hx hb hr hlocks hP hK hD hT hG hS rfl rfl (fun b hb => by cases hb; exact kb7) dX0_thingAt_34
set_option maxHeartbeats 4000000 in
set_option maxRecDepth 100000 in
theorem c_X3_slopeAt {l : Launch} {D : va_G} {ad : Nat → Nat} {cy : Nat → ClassId} {A : Nat → Prop} {g : CG} {q : SE} (M : MM) (a0 : Nat) (x1 : Int32) (k0 : ok g a0 3 0) {Z : Int32} (h : f_X3_slopeAt M a0 x1 = some Z) : Met l yX3_slopeAt wsX3_slopeAt ({ frames := 1, cells := 0, slots := 0, locals := 21 }) (va_Pc [.ref (ad a0), .int x1] (Wd D ad cy A g q M)) (va_Qi (fun r u => r = Z ∧ u = M) (Wd D ad cy A g q) A) 0 0 A := by
  refine Met.ofW (cc := cX3_slopeAt) (maxL := 2) (ret := (some .int)) (by decide) rfl ?_
  intro p e s m args below meth c s₁ B hml hv
  obtain ⟨rfl, hP, hK, hD, hT, hG⟩ := hv
  have hx := B.exec
  have hb := B.bytes
  have hr := B.returns
  have hts := atoms_spec (ws := wsX3_slopeAt) B.pre
  have hown : s.vm.findClass RX3 = some m.cls := findClass_of_methodNamed B.named
  have hlocks := B.notSynchronized
  have in3 : ∀ w ∈ u_ws RX3 TX3 3, w ∈ wsX3_slopeAt := fun w h => List.mem_cons_of_mem _ (List.mem_append_right _ h)
  have hS : va_S A s.heap s.heap [] := va_S.rf
  have hl := lv_entry ([.ref (ad a0), .int x1]) (n := 2) (Nat.le_of_ble_eq_true rfl)
  rw [lg_entry_eq]
  generalize (lg_sl ([.ref (ad a0), .int x1]) ++ List.replicate (2 - (lg_sl ([.ref (ad a0), .int x1])).length) Slot.unset).toArray = ls at hl ⊢
  have hl : lv_has ls 2 [(0, .ref (ad a0)), (1, .int x1)] := hl
  unfold f_X3_slopeAt at h
  refine lv_aload_n hx hb dX3_slopeAt_0 rfl (lv_at hl 0 rfl) ?_
  rcases hN1 : gR M a0 2 with _ | b1
  · exact absurd (oc_n hN1 h) (by simp)
  replace h := oc_s hN1 h
  have kb1 := hT.f k0 (k := 2) (t := 15) (n := 6) rfl hN1
  refine r_get (T := TX3) (v := .ref (ad b1)) hx hb hts in3 hown hK hP k0 (by decide) rfl 2 (by decide) (hts (.fieldLink RX3 9 "StoneWalk$Road" "slopes" "[I") (List.mem_of_getElem? (i := 1) (by decide +kernel))) rfl (t := 2) rfl (by show va_rf _ = _; rw [hN1]; rfl) dX3_slopeAt_1 ?_
  refine lv_iload_n hx hb dX3_slopeAt_4 rfl (lv_at hl 1 rfl) ?_
  obtain ⟨z2, h2, h⟩ := ob_some h
  refine k_i (va_runSN (As := [.ref (ad b1), .int x1]) (rest := []) ⟨hx, hb, hml, hown, hts⟩ (c_X11_entry (l := l) M b1 6 x1 kb1 h2) ⟨va_cnB 2 hts gX3_slopeAt_X11_entry_n19 rfl rfl rfl (hG.2.1 _ (List.mem_of_getElem? (i := 13) rfl)) (hts (.initialized RX11) (List.mem_of_getElem? (i := 3) (by decide +kernel))) hdS_X11_entry ⟨Nat.le_of_ble_eq_true rfl, Nat.le_of_ble_eq_true rfl⟩, (hts (.static yX11_entry) (List.mem_of_getElem? (i := 2) (by decide +kernel))), trivial⟩ (pS hP hK hD hT hG hS) rfl rfl hl.1 rfl (lv_room (Nat.le_of_ble_eq_true rfl)) dX3_slopeAt_5 ⟨Nat.zero_le _, Nat.zero_le _⟩) hS (fun H locs hP hD hT hS => ?_)
  exact r_iret hx hb hr hlocks hP hK hD hT hG hS (Option.some.inj h) rfl dX3_slopeAt_8
set_option maxHeartbeats 4000000 in
set_option maxRecDepth 100000 in
theorem c_X10_carries {l : Launch} {D : va_G} {ad : Nat → Nat} {cy : Nat → ClassId} {A : Nat → Prop} {g : CG} {q : SE} (M : MM) (a0 : Nat) (a1 : Nat) (x2 : Int32) (k0 : ok g a0 10 0) (k1 : ok g a1 5 0) {Z : Int32} (h : f_X10_carries M a0 a1 x2 = some Z) : Met l yX10_carries wsX10_carries ({ frames := 0, cells := 0, slots := 0, locals := 0 }) (va_Pc [.ref (ad a0), .ref (ad a1), .int x2] (Wd D ad cy A g q M)) (va_Qi (fun r u => r = Z ∧ u = M ∧ zb r) (Wd D ad cy A g q) A) 0 0 A := by
  refine Met.ofW (cc := cX10_carries) (maxL := 3) (ret := (some .boolean)) (by decide) rfl ?_
  intro p e s m args below meth c s₁ B hml hv
  obtain ⟨rfl, hP, hK, hD, hT, hG⟩ := hv
  have hx := B.exec
  have hb := B.bytes
  have hr := B.returns
  have hts := atoms_spec (ws := wsX10_carries) B.pre
  have hown : s.vm.findClass RX10 = some m.cls := findClass_of_methodNamed B.named
  have hlocks := B.notSynchronized
  have in5 : ∀ w ∈ u_ws RX5 TX5 8, w ∈ wsX10_carries := fun w h => List.mem_cons_of_mem _ (List.mem_append_right _ h)
  have in10 : ∀ w ∈ u_ws RX10 TX10 3, w ∈ wsX10_carries := fun w h => List.mem_cons_of_mem _ (List.mem_append_left _ (List.mem_append_right _ h))
  have hS : va_S A s.heap s.heap [] := va_S.rf
  have hl := lv_entry ([.ref (ad a0), .ref (ad a1), .int x2]) (n := 3) (Nat.le_of_ble_eq_true rfl)
  rw [lg_entry_eq]
  generalize (lg_sl ([.ref (ad a0), .ref (ad a1), .int x2]) ++ List.replicate (3 - (lg_sl ([.ref (ad a0), .ref (ad a1), .int x2])).length) Slot.unset).toArray = ls at hl ⊢
  have hl : lv_has ls 3 [(0, .ref (ad a0)), (1, .ref (ad a1)), (2, .int x2)] := hl
  unfold f_X10_carries at h
  refine lv_aload_n hx hb dX10_carries_0 rfl (lv_at hl 0 rfl) ?_
  refine r_get (T := TX10) (v := .int (gI M a0 0)) hx hb hts in10 hown hK hP k0 (by decide) rfl 0 (by decide) (hts (.fieldLink RX10 9 "StoneWalk$Way" "kind" "I") (List.mem_of_getElem? (i := 1) (by decide +kernel))) rfl (t := 0) rfl rfl dX10_carries_1 ?_
  refine lv_if_ne (tgt := 59) hx hb dX10_carries_4 rfl (fun c1 => ?_) (fun c1 => ?_)
  · replace h := ite_f c1 h
    refine lv_aload_n hx hb dX10_carries_59 rfl (lv_at hl 0 rfl) ?_
    refine r_get (T := TX10) (v := .int (gI M a0 0)) hx hb hts in10 hown hK hP k0 (by decide) rfl 0 (by decide) (hts (.fieldLink RX10 9 "StoneWalk$Way" "kind" "I") (List.mem_of_getElem? (i := 1) (by decide +kernel))) rfl (t := 0) rfl rfl dX10_carries_60 ?_
    refine lv_iconst (v := 1) hx hb dX10_carries_63 rfl ?_
    refine lv_icmp_ne (tgt := 85) hx hb dX10_carries_64 rfl (fun c2 => ?_) (fun c2 => ?_)
    · replace h := ite_f c2 h
      refine lv_aload_n hx hb dX10_carries_85 rfl (lv_at hl 0 rfl) ?_
      refine r_get (T := TX10) (v := .int (gI M a0 0)) hx hb hts in10 hown hK hP k0 (by decide) rfl 0 (by decide) (hts (.fieldLink RX10 9 "StoneWalk$Way" "kind" "I") (List.mem_of_getElem? (i := 1) (by decide +kernel))) rfl (t := 0) rfl rfl dX10_carries_86 ?_
      refine lv_iconst (v := 2) hx hb dX10_carries_89 rfl ?_
      refine lv_icmp_ne (tgt := 119) hx hb dX10_carries_90 rfl (fun c3 => ?_) (fun c3 => ?_)
      · replace h := ite_f c3 h
        refine lv_aload_n hx hb dX10_carries_119 rfl (lv_at hl 1 rfl) ?_
        refine r_get (T := TX5) (v := .int (gI M a1 0)) hx hb hts in5 hown hK hP k1 (by decide) rfl 0 (by decide) (hts (.fieldLink RX10 23 "StoneWalk$Stone" "tons" "I") (List.mem_of_getElem? (i := 4) (by decide +kernel))) rfl (t := 0) rfl rfl dX10_carries_120 ?_
        refine lv_bipush (v := 20) hx hb dX10_carries_123 rfl ?_
        refine lv_icmp_gt (tgt := 138) hx hb dX10_carries_125 rfl (fun c4 => ?_) (fun c4 => ?_)
        · replace h := ite_t c4 h
          refine lv_iconst (v := 0) hx hb dX10_carries_138 rfl ?_
          exact r_zret hx hb hr hlocks hP hK hD hT hG hS zb_0 (Option.some.inj h) rfl dX10_carries_139
        · replace h := ite_f c4 h
          refine lv_iload_n hx hb dX10_carries_128 rfl (lv_at hl 2 rfl) ?_
          refine lv_bipush (v := 12) hx hb dX10_carries_129 rfl ?_
          refine lv_icmp_gt (tgt := 138) hx hb dX10_carries_131 rfl (fun c5 => ?_) (fun c5 => ?_)
          · replace h := ite_t c5 h
            refine lv_iconst (v := 0) hx hb dX10_carries_138 rfl ?_
            exact r_zret hx hb hr hlocks hP hK hD hT hG hS zb_0 (Option.some.inj h) rfl dX10_carries_139
          · replace h := ite_f c5 h
            refine lv_iconst (v := 1) hx hb dX10_carries_134 rfl ?_
            refine lv_goto (tgt := 139) hx hb dX10_carries_135 rfl ?_
            exact r_zret hx hb hr hlocks hP hK hD hT hG hS zb_1 (Option.some.inj h) rfl dX10_carries_139
      · replace h := ite_t c3 h
        refine lv_aload_n hx hb dX10_carries_93 rfl (lv_at hl 1 rfl) ?_
        refine r_get (T := TX5) (v := .int (gI M a1 0)) hx hb hts in5 hown hK hP k1 (by decide) rfl 0 (by decide) (hts (.fieldLink RX10 23 "StoneWalk$Stone" "tons" "I") (List.mem_of_getElem? (i := 4) (by decide +kernel))) rfl (t := 0) rfl rfl dX10_carries_94 ?_
        refine lv_bipush (v := 30) hx hb dX10_carries_97 rfl ?_
        refine lv_icmp_gt (tgt := 117) hx hb dX10_carries_99 rfl (fun c6 => ?_) (fun c6 => ?_)
        · replace h := ite_t c6 h
          refine lv_iconst (v := 0) hx hb dX10_carries_117 rfl ?_
          exact r_zret hx hb hr hlocks hP hK hD hT hG hS zb_0 (Option.some.inj h) rfl dX10_carries_118
        · replace h := ite_f c6 h
          refine lv_iload_n hx hb dX10_carries_102 rfl (lv_at hl 2 rfl) ?_
          refine lv_bipush (v := (-3)) hx hb dX10_carries_103 rfl ?_
          refine lv_icmp_lt (tgt := 117) hx hb dX10_carries_105 rfl (fun c7 => ?_) (fun c7 => ?_)
          · replace h := ite_t c7 h
            refine lv_iconst (v := 0) hx hb dX10_carries_117 rfl ?_
            exact r_zret hx hb hr hlocks hP hK hD hT hG hS zb_0 (Option.some.inj h) rfl dX10_carries_118
          · replace h := ite_f c7 h
            refine lv_iload_n hx hb dX10_carries_108 rfl (lv_at hl 2 rfl) ?_
            refine lv_iconst (v := 5) hx hb dX10_carries_109 rfl ?_
            refine lv_icmp_gt (tgt := 117) hx hb dX10_carries_110 rfl (fun c8 => ?_) (fun c8 => ?_)
            · replace h := ite_t c8 h
              refine lv_iconst (v := 0) hx hb dX10_carries_117 rfl ?_
              exact r_zret hx hb hr hlocks hP hK hD hT hG hS zb_0 (Option.some.inj h) rfl dX10_carries_118
            · replace h := ite_f c8 h
              refine lv_iconst (v := 1) hx hb dX10_carries_113 rfl ?_
              refine lv_goto (tgt := 118) hx hb dX10_carries_114 rfl ?_
              exact r_zret hx hb hr hlocks hP hK hD hT hG hS zb_1 (Option.some.inj h) rfl dX10_carries_118
    · replace h := ite_t c2 h
      refine lv_iload_n hx hb dX10_carries_67 rfl (lv_at hl 2 rfl) ?_
      refine lv_bipush (v := (-6)) hx hb dX10_carries_68 rfl ?_
      refine lv_icmp_lt (tgt := 83) hx hb dX10_carries_70 rfl (fun c9 => ?_) (fun c9 => ?_)
      · replace h := ite_t c9 h
        refine lv_iconst (v := 0) hx hb dX10_carries_83 rfl ?_
        exact r_zret hx hb hr hlocks hP hK hD hT hG hS zb_0 (Option.some.inj h) rfl dX10_carries_84
      · replace h := ite_f c9 h
        refine lv_iload_n hx hb dX10_carries_73 rfl (lv_at hl 2 rfl) ?_
        refine lv_bipush (v := 8) hx hb dX10_carries_74 rfl ?_
        refine lv_icmp_gt (tgt := 83) hx hb dX10_carries_76 rfl (fun c10 => ?_) (fun c10 => ?_)
        · replace h := ite_t c10 h
          refine lv_iconst (v := 0) hx hb dX10_carries_83 rfl ?_
          exact r_zret hx hb hr hlocks hP hK hD hT hG hS zb_0 (Option.some.inj h) rfl dX10_carries_84
        · replace h := ite_f c10 h
          refine lv_iconst (v := 1) hx hb dX10_carries_79 rfl ?_
          refine lv_goto (tgt := 84) hx hb dX10_carries_80 rfl ?_
          exact r_zret hx hb hr hlocks hP hK hD hT hG hS zb_1 (Option.some.inj h) rfl dX10_carries_84
  · replace h := ite_t c1 h
    refine lv_aload_n hx hb dX10_carries_7 rfl (lv_at hl 1 rfl) ?_
    refine r_get (T := TX5) (v := .int (gI M a1 1)) hx hb hts in5 hown hK hP k1 (by decide) rfl 1 (by decide) (hts (.fieldLink RX10 15 "StoneWalk$Stone" "lean" "I") (List.mem_of_getElem? (i := 2) (by decide +kernel))) rfl (t := 0) rfl rfl dX10_carries_8 ?_
    refine lv_iconst (v := 5) hx hb dX10_carries_11 rfl ?_
    refine lv_icmp_lt (tgt := 57) hx hb dX10_carries_12 rfl (fun c11 => ?_) (fun c11 => ?_)
    · replace h := ite_t c11 h
      refine lv_iconst (v := 0) hx hb dX10_carries_57 rfl ?_
      exact r_zret hx hb hr hlocks hP hK hD hT hG hS zb_0 (Option.some.inj h) rfl dX10_carries_58
    · replace h := ite_f c11 h
      refine lv_aload_n hx hb dX10_carries_15 rfl (lv_at hl 1 rfl) ?_
      refine r_get (T := TX5) (v := .int (gI M a1 1)) hx hb hts in5 hown hK hP k1 (by decide) rfl 1 (by decide) (hts (.fieldLink RX10 15 "StoneWalk$Stone" "lean" "I") (List.mem_of_getElem? (i := 2) (by decide +kernel))) rfl (t := 0) rfl rfl dX10_carries_16 ?_
      refine lv_bipush (v := 25) hx hb dX10_carries_19 rfl ?_
      refine lv_icmp_gt (tgt := 57) hx hb dX10_carries_21 rfl (fun c12 => ?_) (fun c12 => ?_)
      · replace h := ite_t c12 h
        refine lv_iconst (v := 0) hx hb dX10_carries_57 rfl ?_
        exact r_zret hx hb hr hlocks hP hK hD hT hG hS zb_0 (Option.some.inj h) rfl dX10_carries_58
      · replace h := ite_f c12 h
        refine lv_aload_n hx hb dX10_carries_24 rfl (lv_at hl 1 rfl) ?_
        refine r_get (T := TX5) (v := .int (gI M a1 2)) hx hb hts in5 hown hK hP k1 (by decide) rfl 2 (by decide) (hts (.fieldLink RX10 20 "StoneWalk$Stone" "edge" "I") (List.mem_of_getElem? (i := 3) (by decide +kernel))) rfl (t := 0) rfl rfl dX10_carries_25 ?_
        refine lv_iconst (v := 3) hx hb dX10_carries_28 rfl ?_
        refine lv_icmp_lt (tgt := 57) hx hb dX10_carries_29 rfl (fun c13 => ?_) (fun c13 => ?_)
        · replace h := ite_t c13 h
          refine lv_iconst (v := 0) hx hb dX10_carries_57 rfl ?_
          exact r_zret hx hb hr hlocks hP hK hD hT hG hS zb_0 (Option.some.inj h) rfl dX10_carries_58
        · replace h := ite_f c13 h
          refine lv_iload_n hx hb dX10_carries_32 rfl (lv_at hl 2 rfl) ?_
          refine lv_aload_n hx hb dX10_carries_33 rfl (lv_at hl 1 rfl) ?_
          refine r_get (T := TX5) (v := .int (gI M a1 1)) hx hb hts in5 hown hK hP k1 (by decide) rfl 1 (by decide) (hts (.fieldLink RX10 15 "StoneWalk$Stone" "lean" "I") (List.mem_of_getElem? (i := 2) (by decide +kernel))) rfl (t := 0) rfl rfl dX10_carries_34 ?_
          refine lv_iconst (v := 2) hx hb dX10_carries_37 rfl ?_
          refine lv_idiv hx hb dX10_carries_38 (by decide) ?_
          refine lv_icmp_gt (tgt := 57) hx hb dX10_carries_39 rfl (fun c14 => ?_) (fun c14 => ?_)
          · replace h := ite_t c14 h
            refine lv_iconst (v := 0) hx hb dX10_carries_57 rfl ?_
            exact r_zret hx hb hr hlocks hP hK hD hT hG hS zb_0 (Option.some.inj h) rfl dX10_carries_58
          · replace h := ite_f c14 h
            refine lv_iload_n hx hb dX10_carries_42 rfl (lv_at hl 2 rfl) ?_
            refine lv_aload_n hx hb dX10_carries_43 rfl (lv_at hl 1 rfl) ?_
            refine r_get (T := TX5) (v := .int (gI M a1 1)) hx hb hts in5 hown hK hP k1 (by decide) rfl 1 (by decide) (hts (.fieldLink RX10 15 "StoneWalk$Stone" "lean" "I") (List.mem_of_getElem? (i := 2) (by decide +kernel))) rfl (t := 0) rfl rfl dX10_carries_44 ?_
            refine lv_iconst (v := 4) hx hb dX10_carries_47 rfl ?_
            refine lv_idiv hx hb dX10_carries_48 (by decide) ?_
            refine lv_ineg hx hb dX10_carries_49 ?_
            refine lv_icmp_lt (tgt := 57) hx hb dX10_carries_50 rfl (fun c15 => ?_) (fun c15 => ?_)
            · replace h := ite_t c15 h
              refine lv_iconst (v := 0) hx hb dX10_carries_57 rfl ?_
              exact r_zret hx hb hr hlocks hP hK hD hT hG hS zb_0 (Option.some.inj h) rfl dX10_carries_58
            · replace h := ite_f c15 h
              refine lv_iconst (v := 1) hx hb dX10_carries_53 rfl ?_
              refine lv_goto (tgt := 58) hx hb dX10_carries_54 rfl ?_
              exact r_zret hx hb hr hlocks hP hK hD hT hG hS zb_1 (Option.some.inj h) rfl dX10_carries_58
set_option maxHeartbeats 4000000 in
set_option maxRecDepth 100000 in
theorem c_X10_passable {l : Launch} {D : va_G} {ad : Nat → Nat} {cy : Nat → ClassId} {A : Nat → Prop} {g : CG} {q : SE} (M : MM) (a0 : Nat) (a1 : Nat) (a2 : Nat) (k0 : ok g a0 10 0) (k1 : ok g a1 5 0) (k2 : ok g a2 3 0) {Z : Int32} (h : f_X10_passable M a0 a1 a2 = some Z) : Met l yX10_passable wsX10_passable ({ frames := 2, cells := 0, slots := 0, locals := 42 }) (va_Pc [.ref (ad a0), .ref (ad a1), .ref (ad a2)] (Wd D ad cy A g q M)) (va_Qi (fun r u => r = Z ∧ u = M) (Wd D ad cy A g q) A) 0 0 A := by
  refine Met.ofW (cc := cX10_passable) (maxL := 5) (ret := (some .int)) (by decide) rfl ?_
  intro p e s m args below meth c s₁ B hml hv
  obtain ⟨rfl, hP, hK, hD, hT, hG⟩ := hv
  have hx := B.exec
  have hb := B.bytes
  have hr := B.returns
  have hts := atoms_spec (ws := wsX10_passable) B.pre
  have hown : s.vm.findClass RX10 = some m.cls := findClass_of_methodNamed B.named
  have hlocks := B.notSynchronized
  have in3 : ∀ w ∈ u_ws RX3 TX3 3, w ∈ wsX10_passable := fun w h => List.mem_cons_of_mem _ (List.mem_append_left _ (List.mem_append_left _ (List.mem_append_right _ h)))
  have hS : va_S A s.heap s.heap [] := va_S.rf
  have hl := lv_entry ([.ref (ad a0), .ref (ad a1), .ref (ad a2)]) (n := 5) (Nat.le_of_ble_eq_true rfl)
  rw [lg_entry_eq]
  generalize (lg_sl ([.ref (ad a0), .ref (ad a1), .ref (ad a2)]) ++ List.replicate (5 - (lg_sl ([.ref (ad a0), .ref (ad a1), .ref (ad a2)])).length) Slot.unset).toArray = ls at hl ⊢
  have hl : lv_has ls 5 [(0, .ref (ad a0)), (1, .ref (ad a1)), (2, .ref (ad a2))] := hl
  unfold f_X10_passable at h
  refine lv_iconst (v := 0) hx hb dX10_passable_0 rfl ?_
  refine lv_istore_n (lv' := [(3, .int 0), (0, .ref (ad a0)), (1, .ref (ad a1)), (2, .ref (ad a2))]) hx hb dX10_passable_1 rfl hl (by decide) rfl (fun ls hl => ?_)
  refine lv_iconst (v := 0) hx hb dX10_passable_2 rfl ?_
  refine lv_istore (lv' := [(4, .int 0), (3, .int 0), (0, .ref (ad a0)), (1, .ref (ad a1)), (2, .ref (ad a2))]) hx hb dX10_passable_3 hl (by decide) rfl (fun ls hl => ?_)
  have L1 : ∀ n1 : Nat, ∀ (y1_0 : Nat) (y1_1 : Nat) (y1_2 : Nat) (y1_3 : Int32) (y1_4 : Int32) (ky1_0 : ok g y1_0 10 0) (ky1_1 : ok g y1_1 5 0) (ky1_2 : ok g y1_2 3 0) (H : Heap) (locs : List Loc), f_X10_passable_L5 n1 M y1_0 y1_1 y1_2 y1_3 y1_4 = some Z → va_P D vwCl (wd ad cy g M) H → va_D A (wd ad cy g M) → WT g M → va_S A s.heap H locs → ∀ (ls : Array Slot), lv_has ls 5 [(0, .ref (ad y1_0)), (1, .ref (ad y1_1)), (2, .ref (ad y1_2)), (3, .int y1_3), (4, .int y1_4)] → W p l e ((headSpec wsX10_passable ({ frames := 2, cells := 0, slots := 0, locals := 42 })).room) s m (([.ref (ad a0), .ref (ad a1), .ref (ad a2)] : List Value).toArray) below meth c H locs 0 0 (MQ below (va_Qi (fun r u => r = Z ∧ u = M) (Wd D ad cy A g q) A) ([.ref (ad a0), .ref (ad a1), .ref (ad a2)]).toArray s 0 0 A) (F0 m 5 ls []) := by
    intro n1
    induction n1 with
    | zero => intro y1_0 y1_1 y1_2 y1_3 y1_4 ky1_0 ky1_1 ky1_2 H locs h; exact absurd h (by simp [f_X10_passable_L5])
    | succ n1 ih1 =>
      intro y1_0 y1_1 y1_2 y1_3 y1_4 ky1_0 ky1_1 ky1_2 H locs h hP hD hT hS ls hl
      rw [f_X10_passable_L5] at h
      refine lv_iload hx hb dX10_passable_5 (lv_at hl 4 rfl) ?_
      refine lv_aload_n hx hb dX10_passable_7 rfl (lv_at hl 2 rfl) ?_
      refine r_get (T := TX3) (v := .int (gI M y1_2 1)) hx hb hts in3 hown hK hP ky1_2 (by decide) rfl 1 (by decide) (hts (.fieldLink RX10 26 "StoneWalk$Road" "held" "I") (List.mem_of_getElem? (i := 1) (by decide +kernel))) rfl (t := 0) rfl rfl dX10_passable_8 ?_
      refine lv_icmp_ge (tgt := 41) hx hb dX10_passable_11 rfl (fun c2 => ?_) (fun c2 => ?_)
      · replace h := ite_t c2 h
        refine lv_iload_n hx hb dX10_passable_41 rfl (lv_at hl 3 rfl) ?_
        exact r_iret hx hb hr hlocks hP hK hD hT hG hS (Option.some.inj h) rfl dX10_passable_42
      · replace h := ite_f c2 h
        refine lv_aload_n hx hb dX10_passable_14 rfl (lv_at hl 0 rfl) ?_
        refine lv_aload_n hx hb dX10_passable_15 rfl (lv_at hl 1 rfl) ?_
        refine lv_aload_n hx hb dX10_passable_16 rfl (lv_at hl 2 rfl) ?_
        refine lv_iload hx hb dX10_passable_17 (lv_at hl 4 rfl) ?_
        obtain ⟨z3, h3, h⟩ := ob_some h
        refine k_i (va_runV (As := [.int y1_4]) (rest := [.ref (ad y1_1), .ref (ad y1_0)]) ⟨hx, hb, hml, hown, hts⟩ (c_X3_slopeAt (l := l) M y1_2 y1_4 ky1_2 h3) (cwV 1 hts gX10_passable_X3_slopeAt rfl rfl rfl hdV_X3_slopeAt ⟨Nat.le_of_ble_eq_true rfl, Nat.le_of_ble_eq_true rfl⟩) (pV (T := TX3) hP hK hD hT hG hS ky1_2 (by decide) rfl) rfl rfl hl.1 rfl (lv_room (Nat.le_of_ble_eq_true rfl)) dX10_passable_19 ⟨Nat.zero_le _, Nat.zero_le _⟩) hS (fun H locs hP hD hT hS => ?_)
        obtain ⟨z4, h4, h⟩ := ob_some h
        refine k_z (va_runV (As := [.ref (ad y1_1), .int z3]) (rest := []) ⟨hx, hb, hml, hown, hts⟩ (c_X10_carries (l := l) M y1_0 y1_1 z3 ky1_0 ky1_1 h4) (cwV 2 hts gX10_passable_X10_carries rfl rfl rfl hdV_X10_carries ⟨Nat.le_of_ble_eq_true rfl, Nat.le_of_ble_eq_true rfl⟩) (pV (T := TX10) hP hK hD hT hG hS ky1_0 (by decide) rfl) rfl rfl hl.1 rfl (lv_room (Nat.le_of_ble_eq_true rfl)) dX10_passable_22 ⟨Nat.zero_le _, Nat.zero_le _⟩) hS (fun H locs hz4 hP hD hT hS => ?_)
        refine lv_if_eq (tgt := 35) hx hb dX10_passable_25 rfl (fun c5 => ?_) (fun c5 => ?_)
        · replace h := ite_t c5 h
          refine lv_iinc (v := y1_4 + 1) (lv' := [(4, .int (y1_4 + 1)), (0, .ref (ad y1_0)), (1, .ref (ad y1_1)), (2, .ref (ad y1_2)), (3, .int y1_3)]) hx hb dX10_passable_35 hl (k := 4) rfl rfl (by decide) rfl (fun ls hl => ?_)
          refine lv_goto (tgt := 5) hx hb dX10_passable_38 rfl ?_
          exact ih1 y1_0 y1_1 y1_2 y1_3 (y1_4 + 1) ky1_0 ky1_1 ky1_2 _ _ h hP hD hT hS ls (lv_sub hl [1, 2, 3, 4, 0] rfl)
        · replace h := ite_f c5 h
          refine lv_iload_n hx hb dX10_passable_28 rfl (lv_at hl 3 rfl) ?_
          refine lv_iconst (v := 1) hx hb dX10_passable_29 rfl ?_
          refine lv_iload hx hb dX10_passable_30 (lv_at hl 4 rfl) ?_
          refine lv_ishl hx hb dX10_passable_32 ?_
          refine lv_ior hx hb dX10_passable_33 ?_
          refine lv_istore_n (lv' := [(3, .int (y1_3 ||| (1 <<< (y1_4 &&& 31)))), (0, .ref (ad y1_0)), (1, .ref (ad y1_1)), (2, .ref (ad y1_2)), (4, .int y1_4)]) hx hb dX10_passable_34 rfl hl (by decide) rfl (fun ls hl => ?_)
          refine lv_iinc (v := y1_4 + 1) (lv' := [(4, .int (y1_4 + 1)), (3, .int (y1_3 ||| (1 <<< (y1_4 &&& 31)))), (0, .ref (ad y1_0)), (1, .ref (ad y1_1)), (2, .ref (ad y1_2))]) hx hb dX10_passable_35 hl (k := 4) rfl rfl (by decide) rfl (fun ls hl => ?_)
          refine lv_goto (tgt := 5) hx hb dX10_passable_38 rfl ?_
          exact ih1 y1_0 y1_1 y1_2 (y1_3 ||| (1 <<< (y1_4 &&& 31))) (y1_4 + 1) ky1_0 ky1_1 ky1_2 _ _ h hP hD hT hS ls (lv_sub hl [2, 3, 4, 1, 0] rfl)
  exact L1 FU a0 a1 a2 0 0 k0 k1 k2 _ _ h hP hD hT hS ls (lv_sub hl [2, 3, 4, 1, 0] rfl)
set_option maxHeartbeats 4000000 in
set_option maxRecDepth 100000 in
theorem c_X11_upwards {l : Launch} {D : va_G} {ad : Nat → Nat} {cy : Nat → ClassId} {A : Nat → Prop} {g : CG} {q : SE} (M : MM) (x0 : Int32) (x1 : Int32) {Z : Int32} (h : f_X11_upwards M x0 x1 = some Z) : Met l yX11_upwards wsX11_upwards ({ frames := 0, cells := 0, slots := 0, locals := 0 }) (va_Pc [.int x0, .int x1] (Wd D ad cy A g q M)) (va_Qi (fun r u => r = Z ∧ u = M) (Wd D ad cy A g q) A) 0 0 A := by
  refine Met.ofW (cc := cX11_upwards) (maxL := 2) (ret := (some .int)) (by decide) rfl ?_
  intro p e s m args below meth c s₁ B hml hv
  obtain ⟨rfl, hP, hK, hD, hT, hG⟩ := hv
  have hx := B.exec
  have hb := B.bytes
  have hr := B.returns
  have hts := atoms_spec (ws := wsX11_upwards) B.pre
  have hown : s.vm.findClass RX11 = some m.cls := findClass_of_methodNamed B.named
  have hlocks := B.notSynchronized
  have hS : va_S A s.heap s.heap [] := va_S.rf
  have hl := lv_entry ([.int x0, .int x1]) (n := 2) (Nat.le_of_ble_eq_true rfl)
  rw [lg_entry_eq]
  generalize (lg_sl ([.int x0, .int x1]) ++ List.replicate (2 - (lg_sl ([.int x0, .int x1])).length) Slot.unset).toArray = ls at hl ⊢
  have hl : lv_has ls 2 [(0, .int x0), (1, .int x1)] := hl
  unfold f_X11_upwards at h
  refine lv_iload_n hx hb dX11_upwards_0 rfl (lv_at hl 1 rfl) ?_
  refine lv_if_le (tgt := 14) hx hb dX11_upwards_1 rfl (fun c1 => ?_) (fun c1 => ?_)
  · replace h := ite_t c1 h
    refine lv_iconst (v := 0) hx hb dX11_upwards_14 rfl ?_
    exact r_iret hx hb hr hlocks hP hK hD hT hG hS (Option.some.inj h) rfl dX11_upwards_15
  · replace h := ite_f c1 h
    refine lv_iload_n hx hb dX11_upwards_4 rfl (lv_at hl 0 rfl) ?_
    refine lv_iload_n hx hb dX11_upwards_5 rfl (lv_at hl 1 rfl) ?_
    refine lv_iadd hx hb dX11_upwards_6 ?_
    refine lv_iconst (v := 1) hx hb dX11_upwards_7 rfl ?_
    refine lv_isub hx hb dX11_upwards_8 ?_
    refine lv_iload_n hx hb dX11_upwards_9 rfl (lv_at hl 1 rfl) ?_
    obtain ⟨hn2, h⟩ := chk_some h
    refine lv_idiv hx hb dX11_upwards_10 hn2 ?_
    refine lv_goto (tgt := 15) hx hb dX11_upwards_11 rfl ?_
    exact r_iret hx hb hr hlocks hP hK hD hT hG hS (Option.some.inj h) rfl dX11_upwards_15
set_option maxHeartbeats 4000000 in
set_option maxRecDepth 100000 in
theorem c_X10_hands {l : Launch} {D : va_G} {ad : Nat → Nat} {cy : Nat → ClassId} {A : Nat → Prop} {g : CG} {q : SE} (M : MM) (a0 : Nat) (x1 : Int32) (x2 : Int32) (k0 : ok g a0 10 0) {Z : Int32} (h : f_X10_hands M a0 x1 x2 = some Z) : Met l yX10_hands wsX10_hands ({ frames := 1, cells := 0, slots := 0, locals := 23 }) (va_Pc [.ref (ad a0), .int x1, .int x2] (Wd D ad cy A g q M)) (va_Qi (fun r u => r = Z ∧ u = M) (Wd D ad cy A g q) A) 0 0 A := by
  refine Met.ofW (cc := cX10_hands) (maxL := 4) (ret := (some .int)) (by decide) rfl ?_
  intro p e s m args below meth c s₁ B hml hv
  obtain ⟨rfl, hP, hK, hD, hT, hG⟩ := hv
  have hx := B.exec
  have hb := B.bytes
  have hr := B.returns
  have hts := atoms_spec (ws := wsX10_hands) B.pre
  have hown : s.vm.findClass RX10 = some m.cls := findClass_of_methodNamed B.named
  have hlocks := B.notSynchronized
  have in10 : ∀ w ∈ u_ws RX10 TX10 3, w ∈ wsX10_hands := fun w h => List.mem_cons_of_mem _ (List.mem_append_right _ h)
  have hS : va_S A s.heap s.heap [] := va_S.rf
  have hl := lv_entry ([.ref (ad a0), .int x1, .int x2]) (n := 4) (Nat.le_of_ble_eq_true rfl)
  rw [lg_entry_eq]
  generalize (lg_sl ([.ref (ad a0), .int x1, .int x2]) ++ List.replicate (4 - (lg_sl ([.ref (ad a0), .int x1, .int x2])).length) Slot.unset).toArray = ls at hl ⊢
  have hl : lv_has ls 4 [(0, .ref (ad a0)), (1, .int x1), (2, .int x2)] := hl
  unfold f_X10_hands at h
  refine lv_bipush (v := 100) hx hb dX10_hands_0 rfl ?_
  refine lv_iconst (v := 5) hx hb dX10_hands_2 rfl ?_
  refine lv_iload_n hx hb dX10_hands_3 rfl (lv_at hl 2 rfl) ?_
  refine lv_iconst (v := 0) hx hb dX10_hands_4 rfl ?_
  refine va_mmax hx hb (hml.trans hl.1.symm) hown (hts (.methodLink RX10 39 Lib.Math.max.name) (List.mem_of_getElem? (i := 1) (by decide +kernel))) (hts (.static Lib.Math.max.name) (List.mem_of_getElem? (i := 2) (by decide +kernel))) (hts (.initialized "java/lang/Math") (List.mem_of_getElem? (i := 3) (by decide +kernel))) (hts (.code Lib.Math.max.name Lib.Math.max.code 2 (some .int)) (List.mem_of_getElem? (i := 4) (by decide +kernel))) (Nat.le_of_ble_eq_true rfl) (Nat.le_of_ble_eq_true rfl) (Nat.zero_le _) (Nat.zero_le _) dX10_hands_5 ?_
  refine lv_imul hx hb dX10_hands_8 ?_
  refine lv_iadd hx hb dX10_hands_9 ?_
  refine lv_istore_n (lv' := [(3, .int (100 + (5 * (if x2 < 0 then 0 else x2)))), (0, .ref (ad a0)), (1, .int x1), (2, .int x2)]) hx hb dX10_hands_10 rfl hl (by decide) rfl (fun ls hl => ?_)
  refine lv_iload_n hx hb dX10_hands_11 rfl (lv_at hl 2 rfl) ?_
  refine lv_bipush (v := 10) hx hb dX10_hands_12 rfl ?_
  refine lv_imul hx hb dX10_hands_14 ?_
  refine r_sget (t := 1) hx hb hG hS hown (by decide) rfl (hts (.fieldLink RX10 45 "StoneWalk$Way" "TOIL" "[I") (List.mem_of_getElem? (i := 5) (by decide +kernel))) dX10_hands_15 ?_
  refine lv_aload_n hx hb dX10_hands_18 rfl (lv_at hl 1 rfl) ?_
  refine r_get (T := TX10) (v := .int (gI M a0 0)) hx hb hts in10 hown hK hP k0 (by decide) rfl 0 (by decide) (hts (.fieldLink RX10 9 "StoneWalk$Way" "kind" "I") (List.mem_of_getElem? (i := 6) (by decide +kernel))) rfl (t := 0) rfl rfl dX10_hands_19 ?_
  obtain ⟨z1, h1, h⟩ := ob_some h
  refine k_i (va_runSN (As := [.ref (q.1 1), .int (gI M a0 0)]) (rest := [.int (x1 * 10)]) ⟨hx, hb, hml, hown, hts⟩ (c_X11_entry_s (l := l) M 1 (gI M a0 0) (by decide) h1) ⟨va_cnB 2 hts gX10_hands_X11_entry_n49 rfl rfl rfl (hG.2.1 _ (List.mem_of_getElem? (i := 16) rfl)) (hts (.initialized RX11) (List.mem_of_getElem? (i := 9) (by decide +kernel))) hdS_X11_entry ⟨Nat.le_of_ble_eq_true rfl, Nat.le_of_ble_eq_true rfl⟩, (hts (.static yX11_entry) (List.mem_of_getElem? (i := 8) (by decide +kernel))), trivial⟩ (pS hP hK hD hT hG hS) rfl rfl hl.1 rfl (lv_room (Nat.le_of_ble_eq_true rfl)) dX10_hands_22 ⟨Nat.zero_le _, Nat.zero_le _⟩) hS (fun H locs hP hD hT hS => ?_)
  refine lv_imul hx hb dX10_hands_25 ?_
  refine lv_iload_n hx hb dX10_hands_26 rfl (lv_at hl 0 rfl) ?_
  refine lv_imul hx hb dX10_hands_27 ?_
  refine lv_bipush (v := 100) hx hb dX10_hands_28 rfl ?_
  refine lv_aload_n hx hb dX10_hands_30 rfl (lv_at hl 1 rfl) ?_
  refine r_get (T := TX10) (v := .int (gI M a0 2)) hx hb hts in10 hown hK hP k0 (by decide) rfl 2 (by decide) (hts (.fieldLink RX10 53 "StoneWalk$Way" "pull" "I") (List.mem_of_getElem? (i := 7) (by decide +kernel))) rfl (t := 0) rfl rfl dX10_hands_31 ?_
  refine lv_imul hx hb dX10_hands_34 ?_
  obtain ⟨z2, h2, h⟩ := ob_some h
  refine k_i (va_runSN (As := [.int (((x1 * 10) * z1) * (100 + (5 * (if x2 < 0 then 0 else x2)))), .int (100 * (gI M a0 2))]) (rest := []) ⟨hx, hb, hml, hown, hts⟩ (c_X11_upwards (l := l) M (((x1 * 10) * z1) * (100 + (5 * (if x2 < 0 then 0 else x2)))) (100 * (gI M a0 2)) h2) ⟨va_cnB 2 hts gX10_hands_X11_upwards_n56 rfl rfl rfl (hG.2.1 _ (List.mem_of_getElem? (i := 17) rfl)) (hts (.initialized RX11) (List.mem_of_getElem? (i := 9) (by decide +kernel))) hdS_X11_upwards ⟨Nat.le_of_ble_eq_true rfl, Nat.le_of_ble_eq_true rfl⟩, (hts (.static yX11_upwards) (List.mem_of_getElem? (i := 11) (by decide +kernel))), trivial⟩ (pS hP hK hD hT hG hS) rfl rfl hl.1 rfl (lv_room (Nat.le_of_ble_eq_true rfl)) dX10_hands_35 ⟨Nat.zero_le _, Nat.zero_le _⟩) hS (fun H locs hP hD hT hS => ?_)
  exact r_iret hx hb hr hlocks hP hK hD hT hG hS (Option.some.inj h) rfl dX10_hands_38
set_option maxHeartbeats 4000000 in
set_option maxRecDepth 100000 in
theorem c_X10_handsAlong {l : Launch} {D : va_G} {ad : Nat → Nat} {cy : Nat → ClassId} {A : Nat → Prop} {g : CG} {q : SE} (M : MM) (a0 : Nat) (x1 : Int32) (a2 : Nat) (k0 : ok g a0 10 0) (k2 : ok g a2 3 0) {Z : Int32} (h : f_X10_handsAlong M a0 x1 a2 = some Z) : Met l yX10_handsAlong wsX10_handsAlong ({ frames := 2, cells := 0, slots := 0, locals := 46 }) (va_Pc [.ref (ad a0), .int x1, .ref (ad a2)] (Wd D ad cy A g q M)) (va_Qi (fun r u => r = Z ∧ u = M) (Wd D ad cy A g q) A) 0 0 A := by
  refine Met.ofW (cc := cX10_handsAlong) (maxL := 5) (ret := (some .int)) (by decide) rfl ?_
  intro p e s m args below meth c s₁ B hml hv
  obtain ⟨rfl, hP, hK, hD, hT, hG⟩ := hv
  have hx := B.exec
  have hb := B.bytes
  have hr := B.returns
  have hts := atoms_spec (ws := wsX10_handsAlong) B.pre
  have hown : s.vm.findClass RX10 = some m.cls := findClass_of_methodNamed B.named
  have hlocks := B.notSynchronized
  have in3 : ∀ w ∈ u_ws RX3 TX3 3, w ∈ wsX10_handsAlong := fun w h => List.mem_cons_of_mem _ (List.mem_append_left _ (List.mem_append_right _ h))
  have hS : va_S A s.heap s.heap [] := va_S.rf
  have hl := lv_entry ([.ref (ad a0), .int x1, .ref (ad a2)]) (n := 5) (Nat.le_of_ble_eq_true rfl)
  rw [lg_entry_eq]
  generalize (lg_sl ([.ref (ad a0), .int x1, .ref (ad a2)]) ++ List.replicate (5 - (lg_sl ([.ref (ad a0), .int x1, .ref (ad a2)])).length) Slot.unset).toArray = ls at hl ⊢
  have hl : lv_has ls 5 [(0, .ref (ad a0)), (1, .int x1), (2, .ref (ad a2))] := hl
  unfold f_X10_handsAlong at h
  refine lv_iconst (v := 0) hx hb dX10_handsAlong_0 rfl ?_
  refine lv_istore_n (lv' := [(3, .int 0), (0, .ref (ad a0)), (1, .int x1), (2, .ref (ad a2))]) hx hb dX10_handsAlong_1 rfl hl (by decide) rfl (fun ls hl => ?_)
  refine lv_iconst (v := 0) hx hb dX10_handsAlong_2 rfl ?_
  refine lv_istore (lv' := [(4, .int 0), (3, .int 0), (0, .ref (ad a0)), (1, .int x1), (2, .ref (ad a2))]) hx hb dX10_handsAlong_3 hl (by decide) rfl (fun ls hl => ?_)
  have L1 : ∀ n1 : Nat, ∀ (y1_0 : Nat) (y1_1 : Int32) (y1_2 : Nat) (y1_3 : Int32) (y1_4 : Int32) (ky1_0 : ok g y1_0 10 0) (ky1_2 : ok g y1_2 3 0) (H : Heap) (locs : List Loc), f_X10_handsAlong_L5 n1 M y1_0 y1_1 y1_2 y1_3 y1_4 = some Z → va_P D vwCl (wd ad cy g M) H → va_D A (wd ad cy g M) → WT g M → va_S A s.heap H locs → ∀ (ls : Array Slot), lv_has ls 5 [(0, .ref (ad y1_0)), (1, .int y1_1), (2, .ref (ad y1_2)), (3, .int y1_3), (4, .int y1_4)] → W p l e ((headSpec wsX10_handsAlong ({ frames := 2, cells := 0, slots := 0, locals := 46 })).room) s m (([.ref (ad a0), .int x1, .ref (ad a2)] : List Value).toArray) below meth c H locs 0 0 (MQ below (va_Qi (fun r u => r = Z ∧ u = M) (Wd D ad cy A g q) A) ([.ref (ad a0), .int x1, .ref (ad a2)]).toArray s 0 0 A) (F0 m 5 ls []) := by
    intro n1
    induction n1 with
    | zero => intro y1_0 y1_1 y1_2 y1_3 y1_4 ky1_0 ky1_2 H locs h; exact absurd h (by simp [f_X10_handsAlong_L5])
    | succ n1 ih1 =>
      intro y1_0 y1_1 y1_2 y1_3 y1_4 ky1_0 ky1_2 H locs h hP hD hT hS ls hl
      rw [f_X10_handsAlong_L5] at h
      refine lv_iload hx hb dX10_handsAlong_5 (lv_at hl 4 rfl) ?_
      refine lv_aload_n hx hb dX10_handsAlong_7 rfl (lv_at hl 2 rfl) ?_
      refine r_get (T := TX3) (v := .int (gI M y1_2 1)) hx hb hts in3 hown hK hP ky1_2 (by decide) rfl 1 (by decide) (hts (.fieldLink RX10 26 "StoneWalk$Road" "held" "I") (List.mem_of_getElem? (i := 1) (by decide +kernel))) rfl (t := 0) rfl rfl dX10_handsAlong_8 ?_
      refine lv_icmp_ge (tgt := 36) hx hb dX10_handsAlong_11 rfl (fun c2 => ?_) (fun c2 => ?_)
      · replace h := ite_t c2 h
        refine lv_iload_n hx hb dX10_handsAlong_36 rfl (lv_at hl 3 rfl) ?_
        exact r_iret hx hb hr hlocks hP hK hD hT hG hS (Option.some.inj h) rfl dX10_handsAlong_37
      · replace h := ite_f c2 h
        refine lv_iload_n hx hb dX10_handsAlong_14 rfl (lv_at hl 3 rfl) ?_
        refine lv_aload_n hx hb dX10_handsAlong_15 rfl (lv_at hl 0 rfl) ?_
        refine lv_iload_n hx hb dX10_handsAlong_16 rfl (lv_at hl 1 rfl) ?_
        refine lv_aload_n hx hb dX10_handsAlong_17 rfl (lv_at hl 2 rfl) ?_
        refine lv_iload hx hb dX10_handsAlong_18 (lv_at hl 4 rfl) ?_
        obtain ⟨z3, h3, h⟩ := ob_some h
        refine k_i (va_runV (As := [.int y1_4]) (rest := [.int y1_1, .ref (ad y1_0), .int y1_3]) ⟨hx, hb, hml, hown, hts⟩ (c_X3_slopeAt (l := l) M y1_2 y1_4 ky1_2 h3) (cwV 1 hts gX10_handsAlong_X3_slopeAt rfl rfl rfl hdV_X3_slopeAt ⟨Nat.le_of_ble_eq_true rfl, Nat.le_of_ble_eq_true rfl⟩) (pV (T := TX3) hP hK hD hT hG hS ky1_2 (by decide) rfl) rfl rfl hl.1 rfl (lv_room (Nat.le_of_ble_eq_true rfl)) dX10_handsAlong_20 ⟨Nat.zero_le _, Nat.zero_le _⟩) hS (fun H locs hP hD hT hS => ?_)
        obtain ⟨z4, h4, h⟩ := ob_some h
        refine k_i (va_runV (As := [.int y1_1, .int z3]) (rest := [.int y1_3]) ⟨hx, hb, hml, hown, hts⟩ (c_X10_hands (l := l) M y1_0 y1_1 z3 ky1_0 h4) (cwV 2 hts gX10_handsAlong_X10_hands rfl rfl rfl hdV_X10_hands ⟨Nat.le_of_ble_eq_true rfl, Nat.le_of_ble_eq_true rfl⟩) (pV (T := TX10) hP hK hD hT hG hS ky1_0 (by decide) rfl) rfl rfl hl.1 rfl (lv_room (Nat.le_of_ble_eq_true rfl)) dX10_handsAlong_23 ⟨Nat.zero_le _, Nat.zero_le _⟩) hS (fun H locs hP hD hT hS => ?_)
        refine va_mmax hx hb (hml.trans hl.1.symm) hown (hts (.methodLink RX10 39 Lib.Math.max.name) (List.mem_of_getElem? (i := 2) (by decide +kernel))) (hts (.static Lib.Math.max.name) (List.mem_of_getElem? (i := 3) (by decide +kernel))) (hts (.initialized "java/lang/Math") (List.mem_of_getElem? (i := 4) (by decide +kernel))) (hts (.code Lib.Math.max.name Lib.Math.max.code 2 (some .int)) (List.mem_of_getElem? (i := 5) (by decide +kernel))) (Nat.le_of_ble_eq_true rfl) (Nat.le_of_ble_eq_true rfl) (Nat.zero_le _) (Nat.zero_le _) dX10_handsAlong_26 ?_
        refine lv_istore_n (lv' := [(3, .int (if y1_3 < z4 then z4 else y1_3)), (0, .ref (ad y1_0)), (1, .int y1_1), (2, .ref (ad y1_2)), (4, .int y1_4)]) hx hb dX10_handsAlong_29 rfl hl (by decide) rfl (fun ls hl => ?_)
        refine lv_iinc (v := y1_4 + 1) (lv' := [(4, .int (y1_4 + 1)), (3, .int (if y1_3 < z4 then z4 else y1_3)), (0, .ref (ad y1_0)), (1, .int y1_1), (2, .ref (ad y1_2))]) hx hb dX10_handsAlong_30 hl (k := 4) rfl rfl (by decide) rfl (fun ls hl => ?_)
        refine lv_goto (tgt := 5) hx hb dX10_handsAlong_33 rfl ?_
        exact ih1 y1_0 y1_1 y1_2 (if y1_3 < z4 then z4 else y1_3) (y1_4 + 1) ky1_0 ky1_2 _ _ h hP hD hT hS ls (lv_sub hl [2, 3, 4, 1, 0] rfl)
  exact L1 FU a0 x1 a2 0 0 k0 k2 _ _ h hP hD hT hS ls (lv_sub hl [2, 3, 4, 1, 0] rfl)
set_option maxHeartbeats 4000000 in
set_option maxRecDepth 100000 in
theorem c_X0_easiestWay {l : Launch} {D : va_G} {ad : Nat → Nat} {cy : Nat → ClassId} {A : Nat → Prop} {g : CG} {q : SE} (M : MM) (a0 : Nat) (a1 : Nat) (a2 : Nat) (k0 : ok g a0 0 0) (k1 : ok g a1 5 0) (k2 : ok g a2 3 0) {Z : Int32} (h : f_X0_easiestWay M a0 a1 a2 = some Z) : Met l yX0_easiestWay wsX0_easiestWay ({ frames := 3, cells := 0, slots := 0, locals := 70 }) (va_Pc [.ref (ad a0), .ref (ad a1), .ref (ad a2)] (Wd D ad cy A g q M)) (va_Qi (fun r u => r = Z ∧ u = M) (Wd D ad cy A g q) A) 0 0 A := by
  refine Met.ofW (cc := cX0_easiestWay) (maxL := 9) (ret := (some .int)) (by decide) rfl ?_
  intro p e s m args below meth c s₁ B hml hv
  obtain ⟨rfl, hP, hK, hD, hT, hG⟩ := hv
  have hx := B.exec
  have hb := B.bytes
  have hr := B.returns
  have hts := atoms_spec (ws := wsX0_easiestWay) B.pre
  have hown : s.vm.findClass RX0 = some m.cls := findClass_of_methodNamed B.named
  have hlocks := B.notSynchronized
  have in3 : ∀ w ∈ u_ws RX3 TX3 3, w ∈ wsX0_easiestWay := fun w h => List.mem_cons_of_mem _ (List.mem_append_left _ (List.mem_append_left _ (List.mem_append_left _ (List.mem_append_right _ h))))
  have in5 : ∀ w ∈ u_ws RX5 TX5 8, w ∈ wsX0_easiestWay := fun w h => List.mem_cons_of_mem _ (List.mem_append_left _ (List.mem_append_left _ (List.mem_append_right _ h)))
  have hS : va_S A s.heap s.heap [] := va_S.rf
  have hl := lv_entry ([.ref (ad a0), .ref (ad a1), .ref (ad a2)]) (n := 9) (Nat.le_of_ble_eq_true rfl)
  rw [lg_entry_eq]
  generalize (lg_sl ([.ref (ad a0), .ref (ad a1), .ref (ad a2)]) ++ List.replicate (9 - (lg_sl ([.ref (ad a0), .ref (ad a1), .ref (ad a2)])).length) Slot.unset).toArray = ls at hl ⊢
  have hl : lv_has ls 9 [(0, .ref (ad a0)), (1, .ref (ad a1)), (2, .ref (ad a2))] := hl
  unfold f_X0_easiestWay at h
  refine lv_iconst (v := 1) hx hb dX0_easiestWay_0 rfl ?_
  refine lv_aload_n hx hb dX0_easiestWay_1 rfl (lv_at hl 2 rfl) ?_
  refine r_get (T := TX3) (v := .int (gI M a2 1)) hx hb hts in3 hown hK hP k2 (by decide) rfl 1 (by decide) (hts (.fieldLink RX0 75 "StoneWalk$Road" "held" "I") (List.mem_of_getElem? (i := 1) (by decide +kernel))) rfl (t := 0) rfl rfl dX0_easiestWay_2 ?_
  refine lv_ishl hx hb dX0_easiestWay_5 ?_
  refine lv_iconst (v := 1) hx hb dX0_easiestWay_6 rfl ?_
  refine lv_isub hx hb dX0_easiestWay_7 ?_
  refine lv_istore_n (lv' := [(3, .int ((1 <<< ((gI M a2 1) &&& 31)) - 1)), (0, .ref (ad a0)), (1, .ref (ad a1)), (2, .ref (ad a2))]) hx hb dX0_easiestWay_8 rfl hl (by decide) rfl (fun ls hl => ?_)
  refine lv_bipush (v := (-2)) hx hb dX0_easiestWay_9 rfl ?_
  refine lv_istore (lv' := [(4, .int (-2)), (3, .int ((1 <<< ((gI M a2 1) &&& 31)) - 1)), (0, .ref (ad a0)), (1, .ref (ad a1)), (2, .ref (ad a2))]) hx hb dX0_easiestWay_11 hl (by decide) rfl (fun ls hl => ?_)
  refine lv_iconst (v := 0) hx hb dX0_easiestWay_13 rfl ?_
  refine lv_istore (lv' := [(5, .int 0), (4, .int (-2)), (3, .int ((1 <<< ((gI M a2 1) &&& 31)) - 1)), (0, .ref (ad a0)), (1, .ref (ad a1)), (2, .ref (ad a2))]) hx hb dX0_easiestWay_14 hl (by decide) rfl (fun ls hl => ?_)
  refine lv_iconst (v := 0) hx hb dX0_easiestWay_16 rfl ?_
  refine lv_istore (lv' := [(6, .int 0), (5, .int 0), (4, .int (-2)), (3, .int ((1 <<< ((gI M a2 1) &&& 31)) - 1)), (0, .ref (ad a0)), (1, .ref (ad a1)), (2, .ref (ad a2))]) hx hb dX0_easiestWay_17 hl (by decide) rfl (fun ls hl => ?_)
  have L1 : ∀ n1 : Nat, ∀ (y1_0 : Nat) (y1_1 : Nat) (y1_2 : Nat) (y1_3 : Int32) (y1_4 : Int32) (y1_5 : Int32) (y1_6 : Int32) (ky1_0 : ok g y1_0 0 0) (ky1_1 : ok g y1_1 5 0) (ky1_2 : ok g y1_2 3 0) (H : Heap) (locs : List Loc), f_X0_easiestWay_L19 n1 M y1_0 y1_1 y1_2 y1_3 y1_4 y1_5 y1_6 = some Z → va_P D vwCl (wd ad cy g M) H → va_D A (wd ad cy g M) → WT g M → va_S A s.heap H locs → ∀ (ls : Array Slot), lv_has ls 9 [(0, .ref (ad y1_0)), (1, .ref (ad y1_1)), (2, .ref (ad y1_2)), (3, .int y1_3), (4, .int y1_4), (5, .int y1_5), (6, .int y1_6)] → W p l e ((headSpec wsX0_easiestWay ({ frames := 3, cells := 0, slots := 0, locals := 70 })).room) s m (([.ref (ad a0), .ref (ad a1), .ref (ad a2)] : List Value).toArray) below meth c H locs 0 0 (MQ below (va_Qi (fun r u => r = Z ∧ u = M) (Wd D ad cy A g q) A) ([.ref (ad a0), .ref (ad a1), .ref (ad a2)]).toArray s 0 0 A) (F0 m 19 ls []) := by
    intro n1
    induction n1 with
    | zero => intro y1_0 y1_1 y1_2 y1_3 y1_4 y1_5 y1_6 ky1_0 ky1_1 ky1_2 H locs h; exact absurd h (by simp [f_X0_easiestWay_L19])
    | succ n1 ih1 =>
      intro y1_0 y1_1 y1_2 y1_3 y1_4 y1_5 y1_6 ky1_0 ky1_1 ky1_2 H locs h hP hD hT hS ls hl
      rw [f_X0_easiestWay_L19] at h
      refine lv_iload hx hb dX0_easiestWay_19 (lv_at hl 6 rfl) ?_
      refine lv_aload_n hx hb dX0_easiestWay_21 rfl (lv_at hl 0 rfl) ?_
      refine lv_iconst (v := 0) hx hb dX0_easiestWay_22 rfl ?_
      obtain ⟨z2, h2, h⟩ := ob_some h
      refine k_i (va_runV (As := [.int 0]) (rest := [.int y1_6]) ⟨hx, hb, hml, hown, hts⟩ (c_X0_count (l := l) M y1_0 0 ky1_0 h2) (cwV 1 hts gX0_easiestWay_X0_count rfl rfl rfl hdV_X0_count ⟨Nat.le_of_ble_eq_true rfl, Nat.le_of_ble_eq_true rfl⟩) (pV (T := TX0) hP hK hD hT hG hS ky1_0 (by decide) rfl) rfl rfl hl.1 rfl (lv_room (Nat.le_of_ble_eq_true rfl)) dX0_easiestWay_23 ⟨Nat.zero_le _, Nat.zero_le _⟩) hS (fun H locs hP hD hT hS => ?_)
      refine lv_icmp_ge (tgt := 93) hx hb dX0_easiestWay_26 rfl (fun c3 => ?_) (fun c3 => ?_)
      · replace h := ite_t c3 h
        refine lv_iload hx hb dX0_easiestWay_93 (lv_at hl 4 rfl) ?_
        exact r_iret hx hb hr hlocks hP hK hD hT hG hS (Option.some.inj h) rfl dX0_easiestWay_95
      · replace h := ite_f c3 h
        refine lv_aload_n hx hb dX0_easiestWay_29 rfl (lv_at hl 0 rfl) ?_
        refine lv_iload hx hb dX0_easiestWay_30 (lv_at hl 6 rfl) ?_
        obtain ⟨z4, h4, h⟩ := ob_some h
        refine k_q (va_runV (As := [.int y1_6]) (rest := []) ⟨hx, hb, hml, hown, hts⟩ (c_X0_wayAt (l := l) M y1_0 y1_6 ky1_0 h4) (cwV 1 hts gX0_easiestWay_X0_wayAt rfl rfl rfl hdV_X0_wayAt ⟨Nat.le_of_ble_eq_true rfl, Nat.le_of_ble_eq_true rfl⟩) (pV (T := TX0) hP hK hD hT hG hS ky1_0 (by decide) rfl) rfl rfl hl.1 rfl (lv_room (Nat.le_of_ble_eq_true rfl)) dX0_easiestWay_32 ⟨Nat.zero_le _, Nat.zero_le _⟩) hS (fun H locs hq4 hP hD hT hS => ?_)
        rcases hN4 : z4 with _ | b4
        · replace h := oc_n hN4 h
          show W _ _ _ _ _ _ _ _ _ _ _ _ _ _ _ (F0 _ _ _ (.null :: []))
          refine lv_astoreN (lv' := [(7, .null), (0, .ref (ad y1_0)), (1, .ref (ad y1_1)), (2, .ref (ad y1_2)), (3, .int y1_3), (4, .int y1_4), (5, .int y1_5), (6, .int y1_6)]) hx hb dX0_easiestWay_35 hl (by decide) rfl (fun ls hl => ?_)
          refine lv_aloadN hx hb dX0_easiestWay_37 (lv_at hl 0 rfl) ?_
          refine lv_ifnullN (tgt := 87) hx hb dX0_easiestWay_39 rfl ?_
          refine lv_iinc (v := y1_6 + 1) (lv' := [(6, .int (y1_6 + 1)), (7, .null), (0, .ref (ad y1_0)), (1, .ref (ad y1_1)), (2, .ref (ad y1_2)), (3, .int y1_3), (4, .int y1_4), (5, .int y1_5)]) hx hb dX0_easiestWay_87 hl (k := 7) rfl rfl (by decide) rfl (fun ls hl => ?_)
          refine lv_goto (tgt := 19) hx hb dX0_easiestWay_90 rfl ?_
          exact ih1 y1_0 y1_1 y1_2 y1_3 y1_4 y1_5 (y1_6 + 1) ky1_0 ky1_1 ky1_2 _ _ h hP hD hT hS ls (lv_sub hl [2, 3, 4, 5, 6, 7, 0] rfl)
        · replace h := oc_s hN4 h
          have kb4 := hq4 _ hN4
          show W _ _ _ _ _ _ _ _ _ _ _ _ _ _ _ (F0 _ _ _ (.ref (ad b4) :: []))
          refine lv_astore (lv' := [(7, .ref (ad b4)), (0, .ref (ad y1_0)), (1, .ref (ad y1_1)), (2, .ref (ad y1_2)), (3, .int y1_3), (4, .int y1_4), (5, .int y1_5), (6, .int y1_6)]) hx hb dX0_easiestWay_35 hl (by decide) rfl (fun ls hl => ?_)
          refine lv_aload hx hb dX0_easiestWay_37 (lv_at hl 0 rfl) ?_
          refine lv_ifnull hx hb dX0_easiestWay_39 ?_
          refine lv_aload hx hb dX0_easiestWay_42 (lv_at hl 0 rfl) ?_
          refine lv_aload_n hx hb dX0_easiestWay_44 rfl (lv_at hl 2 rfl) ?_
          refine lv_aload_n hx hb dX0_easiestWay_45 rfl (lv_at hl 3 rfl) ?_
          obtain ⟨z5, h5, h⟩ := ob_some h
          refine k_i (va_runV (As := [.ref (ad y1_1), .ref (ad y1_2)]) (rest := []) ⟨hx, hb, hml, hown, hts⟩ (c_X10_passable (l := l) M b4 y1_1 y1_2 kb4 ky1_1 ky1_2 h5) (cwV 2 hts gX0_easiestWay_X10_passable rfl rfl rfl hdV_X10_passable ⟨Nat.le_of_ble_eq_true rfl, Nat.le_of_ble_eq_true rfl⟩) (pV (T := TX10) hP hK hD hT hG hS kb4 (by decide) rfl) rfl rfl hl.1 rfl (lv_room (Nat.le_of_ble_eq_true rfl)) dX0_easiestWay_46 ⟨Nat.zero_le _, Nat.zero_le _⟩) hS (fun H locs hP hD hT hS => ?_)
          refine lv_iload_n hx hb dX0_easiestWay_49 rfl (lv_at hl 4 rfl) ?_
          refine lv_icmp_ne (tgt := 87) hx hb dX0_easiestWay_50 rfl (fun c6 => ?_) (fun c6 => ?_)
          · replace h := ite_f c6 h
            refine lv_iinc (v := y1_6 + 1) (lv' := [(6, .int (y1_6 + 1)), (7, .ref (ad b4)), (0, .ref (ad y1_0)), (1, .ref (ad y1_1)), (2, .ref (ad y1_2)), (3, .int y1_3), (4, .int y1_4), (5, .int y1_5)]) hx hb dX0_easiestWay_87 hl (k := 7) rfl rfl (by decide) rfl (fun ls hl => ?_)
            refine lv_goto (tgt := 19) hx hb dX0_easiestWay_90 rfl ?_
            exact ih1 y1_0 y1_1 y1_2 y1_3 y1_4 y1_5 (y1_6 + 1) ky1_0 ky1_1 ky1_2 _ _ h hP hD hT hS ls (lv_sub hl [2, 3, 4, 5, 6, 7, 0] rfl)
          · replace h := ite_t c6 h
            refine lv_aload hx hb dX0_easiestWay_53 (lv_at hl 0 rfl) ?_
            refine lv_aload_n hx hb dX0_easiestWay_55 rfl (lv_at hl 2 rfl) ?_
            refine r_get (T := TX5) (v := .int (gI M y1_1 0)) hx hb hts in5 hown hK hP ky1_1 (by decide) rfl 0 (by decide) (hts (.fieldLink RX0 86 "StoneWalk$Stone" "tons" "I") (List.mem_of_getElem? (i := 2) (by decide +kernel))) rfl (t := 0) rfl rfl dX0_easiestWay_56 ?_
            refine lv_aload_n hx hb dX0_easiestWay_59 rfl (lv_at hl 3 rfl) ?_
            obtain ⟨z7, h7, h⟩ := ob_some h
            refine k_i (va_runV (As := [.int (gI M y1_1 0), .ref (ad y1_2)]) (rest := []) ⟨hx, hb, hml, hown, hts⟩ (c_X10_handsAlong (l := l) M b4 (gI M y1_1 0) y1_2 kb4 ky1_2 h7) (cwV 2 hts gX0_easiestWay_X10_handsAlong rfl rfl rfl hdV_X10_handsAlong ⟨Nat.le_of_ble_eq_true rfl, Nat.le_of_ble_eq_true rfl⟩) (pV (T := TX10) hP hK hD hT hG hS kb4 (by decide) rfl) rfl rfl hl.1 rfl (lv_room (Nat.le_of_ble_eq_true rfl)) dX0_easiestWay_60 ⟨Nat.zero_le _, Nat.zero_le _⟩) hS (fun H locs hP hD hT hS => ?_)
            refine lv_istore (lv' := [(8, .int z7), (7, .ref (ad b4)), (0, .ref (ad y1_0)), (1, .ref (ad y1_1)), (2, .ref (ad y1_2)), (3, .int y1_3), (4, .int y1_4), (5, .int y1_5), (6, .int y1_6)]) hx hb dX0_easiestWay_63 hl (by decide) rfl (fun ls hl => ?_)
            refine lv_iload hx hb dX0_easiestWay_65 (lv_at hl 6 rfl) ?_
            refine lv_bipush (v := (-2)) hx hb dX0_easiestWay_67 rfl ?_
            refine lv_icmp_eq (tgt := 79) hx hb dX0_easiestWay_69 rfl (fun c8 => ?_) (fun c8 => ?_)
            · replace h := ite_t c8 h
              refine lv_iload hx hb dX0_easiestWay_79 (lv_at hl 8 rfl) ?_
              refine lv_istore (lv' := [(4, .int y1_6), (8, .int z7), (7, .ref (ad b4)), (0, .ref (ad y1_0)), (1, .ref (ad y1_1)), (2, .ref (ad y1_2)), (3, .int y1_3), (5, .int y1_5), (6, .int y1_6)]) hx hb dX0_easiestWay_81 hl (by decide) rfl (fun ls hl => ?_)
              refine lv_iload hx hb dX0_easiestWay_83 (lv_at hl 1 rfl) ?_
              refine lv_istore (lv' := [(5, .int z7), (4, .int y1_6), (8, .int z7), (7, .ref (ad b4)), (0, .ref (ad y1_0)), (1, .ref (ad y1_1)), (2, .ref (ad y1_2)), (3, .int y1_3), (6, .int y1_6)]) hx hb dX0_easiestWay_85 hl (by decide) rfl (fun ls hl => ?_)
              refine lv_iinc (v := y1_6 + 1) (lv' := [(6, .int (y1_6 + 1)), (5, .int z7), (4, .int y1_6), (8, .int z7), (7, .ref (ad b4)), (0, .ref (ad y1_0)), (1, .ref (ad y1_1)), (2, .ref (ad y1_2)), (3, .int y1_3)]) hx hb dX0_easiestWay_87 hl (k := 8) rfl rfl (by decide) rfl (fun ls hl => ?_)
              refine lv_goto (tgt := 19) hx hb dX0_easiestWay_90 rfl ?_
              exact ih1 y1_0 y1_1 y1_2 y1_3 y1_6 z7 (y1_6 + 1) ky1_0 ky1_1 ky1_2 _ _ h hP hD hT hS ls (lv_sub hl [5, 6, 7, 8, 2, 1, 0] rfl)
            · replace h := ite_f c8 h
              refine lv_iload hx hb dX0_easiestWay_72 (lv_at hl 0 rfl) ?_
              refine lv_iload hx hb dX0_easiestWay_74 (lv_at hl 7 rfl) ?_
              refine lv_icmp_ge (tgt := 87) hx hb dX0_easiestWay_76 rfl (fun c9 => ?_) (fun c9 => ?_)
              · replace h := ite_t c9 h
                refine lv_iinc (v := y1_6 + 1) (lv' := [(6, .int (y1_6 + 1)), (8, .int z7), (7, .ref (ad b4)), (0, .ref (ad y1_0)), (1, .ref (ad y1_1)), (2, .ref (ad y1_2)), (3, .int y1_3), (4, .int y1_4), (5, .int y1_5)]) hx hb dX0_easiestWay_87 hl (k := 8) rfl rfl (by decide) rfl (fun ls hl => ?_)
                refine lv_goto (tgt := 19) hx hb dX0_easiestWay_90 rfl ?_
                exact ih1 y1_0 y1_1 y1_2 y1_3 y1_4 y1_5 (y1_6 + 1) ky1_0 ky1_1 ky1_2 _ _ h hP hD hT hS ls (lv_sub hl [3, 4, 5, 6, 7, 8, 0] rfl)
              · replace h := ite_f c9 h
                refine lv_iload hx hb dX0_easiestWay_79 (lv_at hl 8 rfl) ?_
                refine lv_istore (lv' := [(4, .int y1_6), (8, .int z7), (7, .ref (ad b4)), (0, .ref (ad y1_0)), (1, .ref (ad y1_1)), (2, .ref (ad y1_2)), (3, .int y1_3), (5, .int y1_5), (6, .int y1_6)]) hx hb dX0_easiestWay_81 hl (by decide) rfl (fun ls hl => ?_)
                refine lv_iload hx hb dX0_easiestWay_83 (lv_at hl 1 rfl) ?_
                refine lv_istore (lv' := [(5, .int z7), (4, .int y1_6), (8, .int z7), (7, .ref (ad b4)), (0, .ref (ad y1_0)), (1, .ref (ad y1_1)), (2, .ref (ad y1_2)), (3, .int y1_3), (6, .int y1_6)]) hx hb dX0_easiestWay_85 hl (by decide) rfl (fun ls hl => ?_)
                refine lv_iinc (v := y1_6 + 1) (lv' := [(6, .int (y1_6 + 1)), (5, .int z7), (4, .int y1_6), (8, .int z7), (7, .ref (ad b4)), (0, .ref (ad y1_0)), (1, .ref (ad y1_1)), (2, .ref (ad y1_2)), (3, .int y1_3)]) hx hb dX0_easiestWay_87 hl (k := 8) rfl rfl (by decide) rfl (fun ls hl => ?_)
                refine lv_goto (tgt := 19) hx hb dX0_easiestWay_90 rfl ?_
                exact ih1 y1_0 y1_1 y1_2 y1_3 y1_6 z7 (y1_6 + 1) ky1_0 ky1_1 ky1_2 _ _ h hP hD hT hS ls (lv_sub hl [5, 6, 7, 8, 2, 1, 0] rfl)
  exact L1 FU a0 a1 a2 ((1 <<< ((gI M a2 1) &&& 31)) - 1) (-2) 0 0 k0 k1 k2 _ _ h hP hD hT hS ls (lv_sub hl [4, 5, 6, 3, 2, 1, 0] rfl)
set_option maxHeartbeats 4000000 in
set_option maxRecDepth 100000 in
theorem c_X5_isLying {l : Launch} {D : va_G} {ad : Nat → Nat} {cy : Nat → ClassId} {A : Nat → Prop} {g : CG} {q : SE} (M : MM) (a0 : Nat) (k0 : ok g a0 5 0) {Z : Int32} (h : f_X5_isLying M a0 = some Z) : Met l yX5_isLying wsX5_isLying ({ frames := 0, cells := 0, slots := 0, locals := 0 }) (va_Pc [.ref (ad a0)] (Wd D ad cy A g q M)) (va_Qi (fun r u => r = Z ∧ u = M ∧ zb r) (Wd D ad cy A g q) A) 0 0 A := by
  refine Met.ofW (cc := cX5_isLying) (maxL := 1) (ret := (some .boolean)) (by decide) rfl ?_
  intro p e s m args below meth c s₁ B hml hv
  obtain ⟨rfl, hP, hK, hD, hT, hG⟩ := hv
  have hx := B.exec
  have hb := B.bytes
  have hr := B.returns
  have hts := atoms_spec (ws := wsX5_isLying) B.pre
  have hown : s.vm.findClass RX5 = some m.cls := findClass_of_methodNamed B.named
  have hlocks := B.notSynchronized
  have in5 : ∀ w ∈ u_ws RX5 TX5 8, w ∈ wsX5_isLying := fun w h => List.mem_cons_of_mem _ (List.mem_append_right _ h)
  have hS : va_S A s.heap s.heap [] := va_S.rf
  have hl := lv_entry ([.ref (ad a0)]) (n := 1) (Nat.le_of_ble_eq_true rfl)
  rw [lg_entry_eq]
  generalize (lg_sl ([.ref (ad a0)]) ++ List.replicate (1 - (lg_sl ([.ref (ad a0)])).length) Slot.unset).toArray = ls at hl ⊢
  have hl : lv_has ls 1 [(0, .ref (ad a0))] := hl
  unfold f_X5_isLying at h
  refine lv_aload_n hx hb dX5_isLying_0 rfl (lv_at hl 0 rfl) ?_
  refine r_get (T := TX5) (v := .int (gI M a0 3)) hx hb hts in5 hown hK hP k0 (by decide) rfl 3 (by decide) (hts (.fieldLink RX5 9 "StoneWalk$Stone" "sort" "I") (List.mem_of_getElem? (i := 1) (by decide +kernel))) rfl (t := 0) rfl rfl dX5_isLying_1 ?_
  refine lv_iconst (v := 5) hx hb dX5_isLying_4 rfl ?_
  refine lv_icmp_ne (tgt := 12) hx hb dX5_isLying_5 rfl (fun c1 => ?_) (fun c1 => ?_)
  · replace h := ite_f c1 h
    refine lv_iconst (v := 0) hx hb dX5_isLying_12 rfl ?_
    exact r_zret hx hb hr hlocks hP hK hD hT hG hS zb_0 (Option.some.inj h) rfl dX5_isLying_13
  · replace h := ite_t c1 h
    refine lv_iconst (v := 1) hx hb dX5_isLying_8 rfl ?_
    refine lv_goto (tgt := 13) hx hb dX5_isLying_9 rfl ?_
    exact r_zret hx hb hr hlocks hP hK hD hT hG hS zb_1 (Option.some.inj h) rfl dX5_isLying_13
set_option maxHeartbeats 4000000 in
set_option maxRecDepth 100000 in
theorem c_J6_compare_7cf53 {l : Launch} {D : va_G} {ad : Nat → Nat} {cy : Nat → ClassId} {A : Nat → Prop} {g : CG} {q : SE} (M : MM) (x0 : Int32) (x1 : Int32) {Z : Int32} (h : f_J6_compare_7cf53 M x0 x1 = some Z) : Met l yJ6_compare_7cf53 wsJ6_compare_7cf53 ({ frames := 0, cells := 0, slots := 0, locals := 0 }) (va_Pc [.int x0, .int x1] (Wd D ad cy A g q M)) (va_Qi (fun r u => r = Z ∧ u = M) (Wd D ad cy A g q) A) 0 0 A := by
  refine Met.ofW (cc := cJ6_compare_7cf53) (maxL := 2) (ret := (some .int)) (by decide) rfl ?_
  intro p e s m args below meth c s₁ B hml hv
  obtain ⟨rfl, hP, hK, hD, hT, hG⟩ := hv
  have hx := B.exec
  have hb := B.bytes
  have hr := B.returns
  have hts := atoms_spec (ws := wsJ6_compare_7cf53) B.pre
  have hown : s.vm.findClass RJ6 = some m.cls := findClass_of_methodNamed B.named
  have hlocks := B.notSynchronized
  have hS : va_S A s.heap s.heap [] := va_S.rf
  have hl := lv_entry ([.int x0, .int x1]) (n := 2) (Nat.le_of_ble_eq_true rfl)
  rw [lg_entry_eq]
  generalize (lg_sl ([.int x0, .int x1]) ++ List.replicate (2 - (lg_sl ([.int x0, .int x1])).length) Slot.unset).toArray = ls at hl ⊢
  have hl : lv_has ls 2 [(0, .int x0), (1, .int x1)] := hl
  unfold f_J6_compare_7cf53 at h
  refine lv_iload_n hx hb dJ6_compare_7cf53_0 rfl (lv_at hl 0 rfl) ?_
  refine lv_iload_n hx hb dJ6_compare_7cf53_1 rfl (lv_at hl 1 rfl) ?_
  refine lv_icmp_ge (tgt := 9) hx hb dJ6_compare_7cf53_2 rfl (fun c1 => ?_) (fun c1 => ?_)
  · replace h := ite_t c1 h
    refine lv_iload_n hx hb dJ6_compare_7cf53_9 rfl (lv_at hl 0 rfl) ?_
    refine lv_iload_n hx hb dJ6_compare_7cf53_10 rfl (lv_at hl 1 rfl) ?_
    refine lv_icmp_ne (tgt := 18) hx hb dJ6_compare_7cf53_11 rfl (fun c2 => ?_) (fun c2 => ?_)
    · replace h := ite_f c2 h
      refine lv_iconst (v := 1) hx hb dJ6_compare_7cf53_18 rfl ?_
      exact r_iret hx hb hr hlocks hP hK hD hT hG hS (Option.some.inj h) rfl dJ6_compare_7cf53_19
    · replace h := ite_t c2 h
      refine lv_iconst (v := 0) hx hb dJ6_compare_7cf53_14 rfl ?_
      refine lv_goto (tgt := 19) hx hb dJ6_compare_7cf53_15 rfl ?_
      exact r_iret hx hb hr hlocks hP hK hD hT hG hS (Option.some.inj h) rfl dJ6_compare_7cf53_19
  · replace h := ite_f c1 h
    refine lv_iconst (v := (-1)) hx hb dJ6_compare_7cf53_5 rfl ?_
    refine lv_goto (tgt := 19) hx hb dJ6_compare_7cf53_6 rfl ?_
    exact r_iret hx hb hr hlocks hP hK hD hT hG hS (Option.some.inj h) rfl dJ6_compare_7cf53_19
set_option maxHeartbeats 4000000 in
set_option maxRecDepth 100000 in
theorem c_X10_tenths {l : Launch} {D : va_G} {ad : Nat → Nat} {cy : Nat → ClassId} {A : Nat → Prop} {g : CG} {q : SE} (M : MM) (a0 : Nat) (x1 : Int32) (x2 : Int32) (k0 : ok g a0 10 0) {Z : Int32} (h : f_X10_tenths M a0 x1 x2 = some Z) : Met l yX10_tenths wsX10_tenths ({ frames := 1, cells := 0, slots := 0, locals := 21 }) (va_Pc [.ref (ad a0), .int x1, .int x2] (Wd D ad cy A g q M)) (va_Qi (fun r u => r = Z ∧ u = M) (Wd D ad cy A g q) A) 0 0 A := by
  refine Met.ofW (cc := cX10_tenths) (maxL := 4) (ret := (some .int)) (by decide) rfl ?_
  intro p e s m args below meth c s₁ B hml hv
  obtain ⟨rfl, hP, hK, hD, hT, hG⟩ := hv
  have hx := B.exec
  have hb := B.bytes
  have hr := B.returns
  have hts := atoms_spec (ws := wsX10_tenths) B.pre
  have hown : s.vm.findClass RX10 = some m.cls := findClass_of_methodNamed B.named
  have hlocks := B.notSynchronized
  have in10 : ∀ w ∈ u_ws RX10 TX10 3, w ∈ wsX10_tenths := fun w h => List.mem_cons_of_mem _ (List.mem_append_right _ h)
  have hS : va_S A s.heap s.heap [] := va_S.rf
  have hl := lv_entry ([.ref (ad a0), .int x1, .int x2]) (n := 4) (Nat.le_of_ble_eq_true rfl)
  rw [lg_entry_eq]
  generalize (lg_sl ([.ref (ad a0), .int x1, .int x2]) ++ List.replicate (4 - (lg_sl ([.ref (ad a0), .int x1, .int x2])).length) Slot.unset).toArray = ls at hl ⊢
  have hl : lv_has ls 4 [(0, .ref (ad a0)), (1, .int x1), (2, .int x2)] := hl
  unfold f_X10_tenths at h
  refine lv_iload_n hx hb dX10_tenths_0 rfl (lv_at hl 1 rfl) ?_
  refine lv_iconst (v := 0) hx hb dX10_tenths_1 rfl ?_
  obtain ⟨z1, h1, h⟩ := ob_some h
  refine k_i (va_runS (As := [.int x1, .int 0]) (rest := []) ⟨hx, hb, hml, hown, hts⟩ (c_J6_compare_7cf53 (l := l) M x1 0 h1) (va_cwS 2 hts gX10_tenths_J6_compare_7cf53 rfl rfl rfl hdS_J6_compare_7cf53 ⟨Nat.le_of_ble_eq_true rfl, Nat.le_of_ble_eq_true rfl⟩) (pS hP hK hD hT hG hS) rfl rfl hl.1 rfl (lv_room (Nat.le_of_ble_eq_true rfl)) dX10_tenths_2 ⟨Nat.zero_le _, Nat.zero_le _⟩) hS (fun H locs hP hD hT hS => ?_)
  refine lv_iconst (v := 1) hx hb dX10_tenths_5 rfl ?_
  refine lv_iadd hx hb dX10_tenths_6 ?_
  refine lv_istore_n (lv' := [(3, .int (z1 + 1)), (0, .ref (ad a0)), (1, .int x1), (2, .int x2)]) hx hb dX10_tenths_7 rfl hl (by decide) rfl (fun ls hl => ?_)
  refine r_sget (t := 6) hx hb hG hS hown (by decide) rfl (hts (.fieldLink RX10 79 "StoneWalk$Way" "TENTHS" "[I") (List.mem_of_getElem? (i := 1) (by decide +kernel))) dX10_tenths_8 ?_
  refine lv_aload_n hx hb dX10_tenths_11 rfl (lv_at hl 1 rfl) ?_
  refine r_get (T := TX10) (v := .int (gI M a0 0)) hx hb hts in10 hown hK hP k0 (by decide) rfl 0 (by decide) (hts (.fieldLink RX10 9 "StoneWalk$Way" "kind" "I") (List.mem_of_getElem? (i := 2) (by decide +kernel))) rfl (t := 0) rfl rfl dX10_tenths_12 ?_
  refine lv_iconst (v := 3) hx hb dX10_tenths_15 rfl ?_
  refine lv_imul hx hb dX10_tenths_16 ?_
  refine lv_iload_n hx hb dX10_tenths_17 rfl (lv_at hl 0 rfl) ?_
  refine lv_iadd hx hb dX10_tenths_18 ?_
  refine lv_iconst (v := 3) hx hb dX10_tenths_19 rfl ?_
  refine lv_imul hx hb dX10_tenths_20 ?_
  refine lv_iload_n hx hb dX10_tenths_21 rfl (lv_at hl 3 rfl) ?_
  refine lv_iadd hx hb dX10_tenths_22 ?_
  obtain ⟨z2, h2, h⟩ := ob_some h
  refine k_i (va_runSN (As := [.ref (q.1 6), .int (((((gI M a0 0) * 3) + (z1 + 1)) * 3) + x2)]) (rest := []) ⟨hx, hb, hml, hown, hts⟩ (c_X11_entry_s (l := l) M 6 (((((gI M a0 0) * 3) + (z1 + 1)) * 3) + x2) (by decide) h2) ⟨va_cnB 2 hts gX10_tenths_X11_entry_n49 rfl rfl rfl (hG.2.1 _ (List.mem_of_getElem? (i := 16) rfl)) (hts (.initialized RX11) (List.mem_of_getElem? (i := 8) (by decide +kernel))) hdS_X11_entry ⟨Nat.le_of_ble_eq_true rfl, Nat.le_of_ble_eq_true rfl⟩, (hts (.static yX11_entry) (List.mem_of_getElem? (i := 7) (by decide +kernel))), trivial⟩ (pS hP hK hD hT hG hS) rfl rfl hl.1 rfl (lv_room (Nat.le_of_ble_eq_true rfl)) dX10_tenths_23 ⟨Nat.zero_le _, Nat.zero_le _⟩) hS (fun H locs hP hD hT hS => ?_)
  exact r_iret hx hb hr hlocks hP hK hD hT hG hS (Option.some.inj h) rfl dX10_tenths_26
set_option maxHeartbeats 4000000 in
set_option maxRecDepth 100000 in
theorem c_X10_hollowed {l : Launch} {D : va_G} {ad : Nat → Nat} {cy : Nat → ClassId} {A : Nat → Prop} {g : CG} {q : SE} (M : MM) (a0 : Nat) (x1 : Int32) (k0 : ok g a0 10 0) {Z : Int32} (h : f_X10_hollowed M a0 x1 = some Z) : Met l yX10_hollowed wsX10_hollowed ({ frames := 1, cells := 0, slots := 0, locals := 21 }) (va_Pc [.ref (ad a0), .int x1] (Wd D ad cy A g q M)) (va_Qi (fun r u => r = Z ∧ u = M) (Wd D ad cy A g q) A) 0 0 A := by
  refine Met.ofW (cc := cX10_hollowed) (maxL := 3) (ret := (some .int)) (by decide) rfl ?_
  intro p e s m args below meth c s₁ B hml hv
  obtain ⟨rfl, hP, hK, hD, hT, hG⟩ := hv
  have hx := B.exec
  have hb := B.bytes
  have hr := B.returns
  have hts := atoms_spec (ws := wsX10_hollowed) B.pre
  have hown : s.vm.findClass RX10 = some m.cls := findClass_of_methodNamed B.named
  have hlocks := B.notSynchronized
  have in10 : ∀ w ∈ u_ws RX10 TX10 3, w ∈ wsX10_hollowed := fun w h => List.mem_cons_of_mem _ (List.mem_append_right _ h)
  have hS : va_S A s.heap s.heap [] := va_S.rf
  have hl := lv_entry ([.ref (ad a0), .int x1]) (n := 3) (Nat.le_of_ble_eq_true rfl)
  rw [lg_entry_eq]
  generalize (lg_sl ([.ref (ad a0), .int x1]) ++ List.replicate (3 - (lg_sl ([.ref (ad a0), .int x1])).length) Slot.unset).toArray = ls at hl ⊢
  have hl : lv_has ls 3 [(0, .ref (ad a0)), (1, .int x1)] := hl
  unfold f_X10_hollowed at h
  refine r_sget (t := 5) hx hb hG hS hown (by decide) rfl (hts (.fieldLink RX10 85 "StoneWalk$Way" "HOLLOWED" "[I") (List.mem_of_getElem? (i := 1) (by decide +kernel))) dX10_hollowed_0 ?_
  refine lv_aload_n hx hb dX10_hollowed_3 rfl (lv_at hl 0 rfl) ?_
  refine r_get (T := TX10) (v := .int (gI M a0 0)) hx hb hts in10 hown hK hP k0 (by decide) rfl 0 (by decide) (hts (.fieldLink RX10 9 "StoneWalk$Way" "kind" "I") (List.mem_of_getElem? (i := 2) (by decide +kernel))) rfl (t := 0) rfl rfl dX10_hollowed_4 ?_
  obtain ⟨z1, h1, h⟩ := ob_some h
  refine k_i (va_runSN (As := [.ref (q.1 5), .int (gI M a0 0)]) (rest := []) ⟨hx, hb, hml, hown, hts⟩ (c_X11_entry_s (l := l) M 5 (gI M a0 0) (by decide) h1) ⟨va_cnB 2 hts gX10_hollowed_X11_entry_n49 rfl rfl rfl (hG.2.1 _ (List.mem_of_getElem? (i := 16) rfl)) (hts (.initialized RX11) (List.mem_of_getElem? (i := 4) (by decide +kernel))) hdS_X11_entry ⟨Nat.le_of_ble_eq_true rfl, Nat.le_of_ble_eq_true rfl⟩, (hts (.static yX11_entry) (List.mem_of_getElem? (i := 3) (by decide +kernel))), trivial⟩ (pS hP hK hD hT hG hS) rfl rfl hl.1 rfl (lv_room (Nat.le_of_ble_eq_true rfl)) dX10_hollowed_7 ⟨Nat.zero_le _, Nat.zero_le _⟩) hS (fun H locs hP hD hT hS => ?_)
  refine lv_istore_n (lv' := [(2, .int z1), (0, .ref (ad a0)), (1, .int x1)]) hx hb dX10_hollowed_10 rfl hl (by decide) rfl (fun ls hl => ?_)
  refine lv_iload_n hx hb dX10_hollowed_11 rfl (lv_at hl 2 rfl) ?_
  refine lv_iconst (v := 3) hx hb dX10_hollowed_12 rfl ?_
  refine lv_icmp_lt (tgt := 20) hx hb dX10_hollowed_13 rfl (fun c2 => ?_) (fun c2 => ?_)
  · replace h := ite_t c2 h
    refine lv_bipush (v := 10) hx hb dX10_hollowed_20 rfl ?_
    refine lv_iload_n hx hb dX10_hollowed_22 rfl (lv_at hl 0 rfl) ?_
    refine lv_isub hx hb dX10_hollowed_23 ?_
    exact r_iret hx hb hr hlocks hP hK hD hT hG hS (Option.some.inj h) rfl dX10_hollowed_24
  · replace h := ite_f c2 h
    refine lv_iload_n hx hb dX10_hollowed_16 rfl (lv_at hl 0 rfl) ?_
    refine lv_goto (tgt := 24) hx hb dX10_hollowed_17 rfl ?_
    exact r_iret hx hb hr hlocks hP hK hD hT hG hS (Option.some.inj h) rfl dX10_hollowed_24
set_option maxHeartbeats 4000000 in
set_option maxRecDepth 100000 in
theorem c_X8_means {l : Launch} {D : va_G} {ad : Nat → Nat} {cy : Nat → ClassId} {A : Nat → Prop} {g : CG} {q : SE} (M : MM) (a0 : Nat) (x1 : Int32) (k0 : ok g a0 8 0) {Z : Int32} (h : f_X8_means M a0 x1 = some Z) : Met l yX8_means wsX8_means ({ frames := 0, cells := 0, slots := 0, locals := 0 }) (va_Pc [.ref (ad a0), .int x1] (Wd D ad cy A g q M)) (va_Qi (fun r u => r = Z ∧ u = M ∧ zb r) (Wd D ad cy A g q) A) 0 0 A := by
  refine Met.ofW (cc := cX8_means) (maxL := 2) (ret := (some .boolean)) (by decide) rfl ?_
  intro p e s m args below meth c s₁ B hml hv
  obtain ⟨rfl, hP, hK, hD, hT, hG⟩ := hv
  have hx := B.exec
  have hb := B.bytes
  have hr := B.returns
  have hts := atoms_spec (ws := wsX8_means) B.pre
  have hown : s.vm.findClass RX8 = some m.cls := findClass_of_methodNamed B.named
  have hlocks := B.notSynchronized
  have in8 : ∀ w ∈ u_ws RX8 TX8 2, w ∈ wsX8_means := fun w h => List.mem_cons_of_mem _ (List.mem_append_right _ h)
  have hS : va_S A s.heap s.heap [] := va_S.rf
  have hl := lv_entry ([.ref (ad a0), .int x1]) (n := 2) (Nat.le_of_ble_eq_true rfl)
  rw [lg_entry_eq]
  generalize (lg_sl ([.ref (ad a0), .int x1]) ++ List.replicate (2 - (lg_sl ([.ref (ad a0), .int x1])).length) Slot.unset).toArray = ls at hl ⊢
  have hl : lv_has ls 2 [(0, .ref (ad a0)), (1, .int x1)] := hl
  unfold f_X8_means at h
  refine lv_iload_n hx hb dX8_means_0 rfl (lv_at hl 1 rfl) ?_
  refine lv_if_lt (tgt := 20) hx hb dX8_means_1 rfl (fun c1 => ?_) (fun c1 => ?_)
  · replace h := ite_t c1 h
    refine lv_iconst (v := 0) hx hb dX8_means_20 rfl ?_
    exact r_zret hx hb hr hlocks hP hK hD hT hG hS zb_0 (Option.some.inj h) rfl dX8_means_21
  · replace h := ite_f c1 h
    refine lv_aload_n hx hb dX8_means_4 rfl (lv_at hl 0 rfl) ?_
    refine r_get (T := TX8) (v := .int (gI M a0 1)) hx hb hts in8 hown hK hP k0 (by decide) rfl 1 (by decide) (hts (.fieldLink RX8 7 "StoneWalk$Teller" "ways" "I") (List.mem_of_getElem? (i := 1) (by decide +kernel))) rfl (t := 0) rfl rfl dX8_means_5 ?_
    refine lv_iload_n hx hb dX8_means_8 rfl (lv_at hl 1 rfl) ?_
    refine lv_ishr hx hb dX8_means_9 ?_
    refine lv_iconst (v := 1) hx hb dX8_means_10 rfl ?_
    refine lv_iand hx hb dX8_means_11 ?_
    refine lv_iconst (v := 1) hx hb dX8_means_12 rfl ?_
    refine lv_icmp_ne (tgt := 20) hx hb dX8_means_13 rfl (fun c2 => ?_) (fun c2 => ?_)
    · replace h := ite_f c2 h
      refine lv_iconst (v := 0) hx hb dX8_means_20 rfl ?_
      exact r_zret hx hb hr hlocks hP hK hD hT hG hS zb_0 (Option.some.inj h) rfl dX8_means_21
    · replace h := ite_t c2 h
      refine lv_iconst (v := 1) hx hb dX8_means_16 rfl ?_
      refine lv_goto (tgt := 21) hx hb dX8_means_17 rfl ?_
      exact r_zret hx hb hr hlocks hP hK hD hT hG hS zb_1 (Option.some.inj h) rfl dX8_means_21
set_option maxHeartbeats 4000000 in
set_option maxRecDepth 100000 in
theorem c_X8_favour {l : Launch} {D : va_G} {ad : Nat → Nat} {cy : Nat → ClassId} {A : Nat → Prop} {g : CG} {q : SE} (M : MM) (a0 : Nat) (x1 : Int32) (k0 : ok g a0 8 0) {Z : Int32} (h : f_X8_favour M a0 x1 = some Z) : Met l yX8_favour wsX8_favour ({ frames := 1, cells := 0, slots := 0, locals := 21 }) (va_Pc [.ref (ad a0), .int x1] (Wd D ad cy A g q M)) (va_Qi (fun r u => r = Z ∧ u = M) (Wd D ad cy A g q) A) 0 0 A := by
  refine Met.ofW (cc := cX8_favour) (maxL := 2) (ret := (some .int)) (by decide) rfl ?_
  intro p e s m args below meth c s₁ B hml hv
  obtain ⟨rfl, hP, hK, hD, hT, hG⟩ := hv
  have hx := B.exec
  have hb := B.bytes
  have hr := B.returns
  have hts := atoms_spec (ws := wsX8_favour) B.pre
  have hown : s.vm.findClass RX8 = some m.cls := findClass_of_methodNamed B.named
  have hlocks := B.notSynchronized
  have in8 : ∀ w ∈ u_ws RX8 TX8 2, w ∈ wsX8_favour := fun w h => List.mem_cons_of_mem _ (List.mem_append_right _ h)
  have hS : va_S A s.heap s.heap [] := va_S.rf
  have hl := lv_entry ([.ref (ad a0), .int x1]) (n := 2) (Nat.le_of_ble_eq_true rfl)
  rw [lg_entry_eq]
  generalize (lg_sl ([.ref (ad a0), .int x1]) ++ List.replicate (2 - (lg_sl ([.ref (ad a0), .int x1])).length) Slot.unset).toArray = ls at hl ⊢
  have hl : lv_has ls 2 [(0, .ref (ad a0)), (1, .int x1)] := hl
  unfold f_X8_favour at h
  refine lv_aload_n hx hb dX8_favour_0 rfl (lv_at hl 0 rfl) ?_
  refine r_get (T := TX8) (v := .int (gI M a0 0)) hx hb hts in8 hown hK hP k0 (by decide) rfl 0 (by decide) (hts (.fieldLink RX8 13 "StoneWalk$Teller" "stranger" "Z") (List.mem_of_getElem? (i := 1) (by decide +kernel))) rfl (t := 0) rfl rfl dX8_favour_1 ?_
  refine lv_if_eq (tgt := 9) hx hb dX8_favour_4 rfl (fun c1 => ?_) (fun c1 => ?_)
  · replace h := ite_t c1 h
    refine lv_aload_n hx hb dX8_favour_9 rfl (lv_at hl 0 rfl) ?_
    refine lv_iload_n hx hb dX8_favour_10 rfl (lv_at hl 1 rfl) ?_
    obtain ⟨z2, h2, h⟩ := ob_some h
    refine k_z (va_runV (As := [.int x1]) (rest := []) ⟨hx, hb, hml, hown, hts⟩ (c_X8_means (l := l) M a0 x1 k0 h2) (cwV 1 hts gX8_favour_X8_means rfl rfl rfl hdV_X8_means ⟨Nat.le_of_ble_eq_true rfl, Nat.le_of_ble_eq_true rfl⟩) (pV (T := TX8) hP hK hD hT hG hS k0 (by decide) rfl) rfl rfl hl.1 rfl (lv_room (Nat.le_of_ble_eq_true rfl)) dX8_favour_11 ⟨Nat.zero_le _, Nat.zero_le _⟩) hS (fun H locs hz2 hP hD hT hS => ?_)
    refine lv_if_eq (tgt := 22) hx hb dX8_favour_14 rfl (fun c3 => ?_) (fun c3 => ?_)
    · replace h := ite_t c3 h
      refine lv_iconst (v := 4) hx hb dX8_favour_22 rfl ?_
      exact r_iret hx hb hr hlocks hP hK hD hT hG hS (Option.some.inj h) rfl dX8_favour_23
    · replace h := ite_f c3 h
      refine lv_bipush (v := 6) hx hb dX8_favour_17 rfl ?_
      refine lv_goto (tgt := 23) hx hb dX8_favour_19 rfl ?_
      exact r_iret hx hb hr hlocks hP hK hD hT hG hS (Option.some.inj h) rfl dX8_favour_23
  · replace h := ite_f c1 h
    refine lv_iconst (v := 5) hx hb dX8_favour_7 rfl ?_
    exact r_iret hx hb hr hlocks hP hK hD hT hG hS (Option.some.inj h) rfl dX8_favour_8
set_option maxHeartbeats 4000000 in
set_option maxRecDepth 100000 in
theorem c_X0_meanLean {l : Launch} {D : va_G} {ad : Nat → Nat} {cy : Nat → ClassId} {A : Nat → Prop} {g : CG} {q : SE} (M : MM) (a0 : Nat) (x1 : Int32) (x2 : Int32) (k0 : ok g a0 0 0) {Z : Int32} (h : f_X0_meanLean M a0 x1 x2 = some Z) : Met l yX0_meanLean wsX0_meanLean ({ frames := 2, cells := 0, slots := 0, locals := 42 }) (va_Pc [.ref (ad a0), .int x1, .int x2] (Wd D ad cy A g q M)) (va_Qi (fun r u => r = Z ∧ u = M) (Wd D ad cy A g q) A) 0 0 A := by
  refine Met.ofW (cc := cX0_meanLean) (maxL := 7) (ret := (some .int)) (by decide) rfl ?_
  intro p e s m args below meth c s₁ B hml hv
  obtain ⟨rfl, hP, hK, hD, hT, hG⟩ := hv
  have hx := B.exec
  have hb := B.bytes
  have hr := B.returns
  have hts := atoms_spec (ws := wsX0_meanLean) B.pre
  have hown : s.vm.findClass RX0 = some m.cls := findClass_of_methodNamed B.named
  have hlocks := B.notSynchronized
  have in5 : ∀ w ∈ u_ws RX5 TX5 8, w ∈ wsX0_meanLean := fun w h => List.mem_cons_of_mem _ (List.mem_append_left _ (List.mem_append_right _ h))
  have hS : va_S A s.heap s.heap [] := va_S.rf
  have hl := lv_entry ([.ref (ad a0), .int x1, .int x2]) (n := 7) (Nat.le_of_ble_eq_true rfl)
  rw [lg_entry_eq]
  generalize (lg_sl ([.ref (ad a0), .int x1, .int x2]) ++ List.replicate (7 - (lg_sl ([.ref (ad a0), .int x1, .int x2])).length) Slot.unset).toArray = ls at hl ⊢
  have hl : lv_has ls 7 [(0, .ref (ad a0)), (1, .int x1), (2, .int x2)] := hl
  unfold f_X0_meanLean at h
  refine lv_iconst (v := 0) hx hb dX0_meanLean_0 rfl ?_
  refine lv_istore_n (lv' := [(3, .int 0), (0, .ref (ad a0)), (1, .int x1), (2, .int x2)]) hx hb dX0_meanLean_1 rfl hl (by decide) rfl (fun ls hl => ?_)
  refine lv_iconst (v := 0) hx hb dX0_meanLean_2 rfl ?_
  refine lv_istore (lv' := [(4, .int 0), (3, .int 0), (0, .ref (ad a0)), (1, .int x1), (2, .int x2)]) hx hb dX0_meanLean_3 hl (by decide) rfl (fun ls hl => ?_)
  refine lv_iconst (v := 0) hx hb dX0_meanLean_5 rfl ?_
  refine lv_istore (lv' := [(5, .int 0), (4, .int 0), (3, .int 0), (0, .ref (ad a0)), (1, .int x1), (2, .int x2)]) hx hb dX0_meanLean_6 hl (by decide) rfl (fun ls hl => ?_)
  have L1 : ∀ n1 : Nat, ∀ (y1_0 : Nat) (y1_1 : Int32) (y1_2 : Int32) (y1_3 : Int32) (y1_4 : Int32) (y1_5 : Int32) (ky1_0 : ok g y1_0 0 0) (H : Heap) (locs : List Loc), f_X0_meanLean_L8 n1 M y1_0 y1_1 y1_2 y1_3 y1_4 y1_5 = some Z → va_P D vwCl (wd ad cy g M) H → va_D A (wd ad cy g M) → WT g M → va_S A s.heap H locs → ∀ (ls : Array Slot), lv_has ls 7 [(0, .ref (ad y1_0)), (1, .int y1_1), (2, .int y1_2), (3, .int y1_3), (4, .int y1_4), (5, .int y1_5)] → W p l e ((headSpec wsX0_meanLean ({ frames := 2, cells := 0, slots := 0, locals := 42 })).room) s m (([.ref (ad a0), .int x1, .int x2] : List Value).toArray) below meth c H locs 0 0 (MQ below (va_Qi (fun r u => r = Z ∧ u = M) (Wd D ad cy A g q) A) ([.ref (ad a0), .int x1, .int x2]).toArray s 0 0 A) (F0 m 8 ls []) := by
    intro n1
    induction n1 with
    | zero => intro y1_0 y1_1 y1_2 y1_3 y1_4 y1_5 ky1_0 H locs h; exact absurd h (by simp [f_X0_meanLean_L8])
    | succ n1 ih1 =>
      intro y1_0 y1_1 y1_2 y1_3 y1_4 y1_5 ky1_0 H locs h hP hD hT hS ls hl
      rw [f_X0_meanLean_L8] at h
      refine lv_iload hx hb dX0_meanLean_8 (lv_at hl 5 rfl) ?_
      refine lv_aload_n hx hb dX0_meanLean_10 rfl (lv_at hl 0 rfl) ?_
      refine lv_iconst (v := 2) hx hb dX0_meanLean_11 rfl ?_
      obtain ⟨z2, h2, h⟩ := ob_some h
      refine k_i (va_runV (As := [.int 2]) (rest := [.int y1_5]) ⟨hx, hb, hml, hown, hts⟩ (c_X0_count (l := l) M y1_0 2 ky1_0 h2) (cwV 1 hts gX0_meanLean_X0_count rfl rfl rfl hdV_X0_count ⟨Nat.le_of_ble_eq_true rfl, Nat.le_of_ble_eq_true rfl⟩) (pV (T := TX0) hP hK hD hT hG hS ky1_0 (by decide) rfl) rfl rfl hl.1 rfl (lv_room (Nat.le_of_ble_eq_true rfl)) dX0_meanLean_12 ⟨Nat.zero_le _, Nat.zero_le _⟩) hS (fun H locs hP hD hT hS => ?_)
      refine lv_icmp_ge (tgt := 63) hx hb dX0_meanLean_15 rfl (fun c3 => ?_) (fun c3 => ?_)
      · replace h := ite_t c3 h
        refine lv_iload hx hb dX0_meanLean_63 (lv_at hl 4 rfl) ?_
        refine lv_if_le (tgt := 75) hx hb dX0_meanLean_65 rfl (fun c4 => ?_) (fun c4 => ?_)
        · replace h := ite_t c4 h
          refine lv_iconst (v := (-1)) hx hb dX0_meanLean_75 rfl ?_
          exact r_iret hx hb hr hlocks hP hK hD hT hG hS (Option.some.inj h) rfl dX0_meanLean_76
        · replace h := ite_f c4 h
          refine lv_iload_n hx hb dX0_meanLean_68 rfl (lv_at hl 3 rfl) ?_
          refine lv_iload hx hb dX0_meanLean_69 (lv_at hl 4 rfl) ?_
          obtain ⟨hn5, h⟩ := chk_some h
          refine lv_idiv hx hb dX0_meanLean_71 hn5 ?_
          refine lv_goto (tgt := 76) hx hb dX0_meanLean_72 rfl ?_
          exact r_iret hx hb hr hlocks hP hK hD hT hG hS (Option.some.inj h) rfl dX0_meanLean_76
      · replace h := ite_f c3 h
        refine lv_aload_n hx hb dX0_meanLean_18 rfl (lv_at hl 0 rfl) ?_
        refine lv_iload hx hb dX0_meanLean_19 (lv_at hl 5 rfl) ?_
        obtain ⟨z6, h6, h⟩ := ob_some h
        refine k_q (va_runV (As := [.int y1_5]) (rest := []) ⟨hx, hb, hml, hown, hts⟩ (c_X0_statueAt (l := l) M y1_0 y1_5 ky1_0 h6) (cwV 1 hts gX0_meanLean_X0_statueAt rfl rfl rfl hdV_X0_statueAt ⟨Nat.le_of_ble_eq_true rfl, Nat.le_of_ble_eq_true rfl⟩) (pV (T := TX0) hP hK hD hT hG hS ky1_0 (by decide) rfl) rfl rfl hl.1 rfl (lv_room (Nat.le_of_ble_eq_true rfl)) dX0_meanLean_21 ⟨Nat.zero_le _, Nat.zero_le _⟩) hS (fun H locs hq6 hP hD hT hS => ?_)
        rcases hN6 : z6 with _ | b6
        · replace h := oc_n hN6 h
          show W _ _ _ _ _ _ _ _ _ _ _ _ _ _ _ (F0 _ _ _ (.null :: []))
          refine lv_astoreN (lv' := [(6, .null), (0, .ref (ad y1_0)), (1, .int y1_1), (2, .int y1_2), (3, .int y1_3), (4, .int y1_4), (5, .int y1_5)]) hx hb dX0_meanLean_24 hl (by decide) rfl (fun ls hl => ?_)
          refine lv_aloadN hx hb dX0_meanLean_26 (lv_at hl 0 rfl) ?_
          refine lv_ifnullN (tgt := 57) hx hb dX0_meanLean_28 rfl ?_
          refine lv_iinc (v := y1_5 + 1) (lv' := [(5, .int (y1_5 + 1)), (6, .null), (0, .ref (ad y1_0)), (1, .int y1_1), (2, .int y1_2), (3, .int y1_3), (4, .int y1_4)]) hx hb dX0_meanLean_57 hl (k := 6) rfl rfl (by decide) rfl (fun ls hl => ?_)
          refine lv_goto (tgt := 8) hx hb dX0_meanLean_60 rfl ?_
          exact ih1 y1_0 y1_1 y1_2 y1_3 y1_4 (y1_5 + 1) ky1_0 _ _ h hP hD hT hS ls (lv_sub hl [2, 3, 4, 5, 6, 0] rfl)
        · replace h := oc_s hN6 h
          have kb6 := hq6 _ hN6
          show W _ _ _ _ _ _ _ _ _ _ _ _ _ _ _ (F0 _ _ _ (.ref (ad b6) :: []))
          refine lv_astore (lv' := [(6, .ref (ad b6)), (0, .ref (ad y1_0)), (1, .int y1_1), (2, .int y1_2), (3, .int y1_3), (4, .int y1_4), (5, .int y1_5)]) hx hb dX0_meanLean_24 hl (by decide) rfl (fun ls hl => ?_)
          refine lv_aload hx hb dX0_meanLean_26 (lv_at hl 0 rfl) ?_
          refine lv_ifnull hx hb dX0_meanLean_28 ?_
          refine lv_aload hx hb dX0_meanLean_31 (lv_at hl 0 rfl) ?_
          refine r_get (T := TX5) (v := .int (gI M b6 3)) hx hb hts in5 hown hK hP kb6 (by decide) rfl 3 (by decide) (hts (.fieldLink RX0 144 "StoneWalk$Stone" "sort" "I") (List.mem_of_getElem? (i := 1) (by decide +kernel))) rfl (t := 0) rfl rfl dX0_meanLean_33 ?_
          refine lv_iload_n hx hb dX0_meanLean_36 rfl (lv_at hl 2 rfl) ?_
          refine lv_icmp_ne (tgt := 57) hx hb dX0_meanLean_37 rfl (fun c7 => ?_) (fun c7 => ?_)
          · replace h := ite_f c7 h
            refine lv_iinc (v := y1_5 + 1) (lv' := [(5, .int (y1_5 + 1)), (6, .ref (ad b6)), (0, .ref (ad y1_0)), (1, .int y1_1), (2, .int y1_2), (3, .int y1_3), (4, .int y1_4)]) hx hb dX0_meanLean_57 hl (k := 6) rfl rfl (by decide) rfl (fun ls hl => ?_)
            refine lv_goto (tgt := 8) hx hb dX0_meanLean_60 rfl ?_
            exact ih1 y1_0 y1_1 y1_2 y1_3 y1_4 (y1_5 + 1) ky1_0 _ _ h hP hD hT hS ls (lv_sub hl [2, 3, 4, 5, 6, 0] rfl)
          · replace h := ite_t c7 h
            refine lv_iload hx hb dX0_meanLean_40 (lv_at hl 6 rfl) ?_
            refine lv_iload_n hx hb dX0_meanLean_42 rfl (lv_at hl 3 rfl) ?_
            refine lv_icmp_eq (tgt := 57) hx hb dX0_meanLean_43 rfl (fun c8 => ?_) (fun c8 => ?_)
            · replace h := ite_t c8 h
              refine lv_iinc (v := y1_5 + 1) (lv' := [(5, .int (y1_5 + 1)), (6, .ref (ad b6)), (0, .ref (ad y1_0)), (1, .int y1_1), (2, .int y1_2), (3, .int y1_3), (4, .int y1_4)]) hx hb dX0_meanLean_57 hl (k := 6) rfl rfl (by decide) rfl (fun ls hl => ?_)
              refine lv_goto (tgt := 8) hx hb dX0_meanLean_60 rfl ?_
              exact ih1 y1_0 y1_1 y1_2 y1_3 y1_4 (y1_5 + 1) ky1_0 _ _ h hP hD hT hS ls (lv_sub hl [2, 3, 4, 5, 6, 0] rfl)
            · replace h := ite_f c8 h
              refine lv_iload_n hx hb dX0_meanLean_46 rfl (lv_at hl 4 rfl) ?_
              refine lv_aload hx hb dX0_meanLean_47 (lv_at hl 0 rfl) ?_
              refine r_get (T := TX5) (v := .int (gI M b6 1)) hx hb hts in5 hown hK hP kb6 (by decide) rfl 1 (by decide) (hts (.fieldLink RX0 147 "StoneWalk$Stone" "lean" "I") (List.mem_of_getElem? (i := 2) (by decide +kernel))) rfl (t := 0) rfl rfl dX0_meanLean_49 ?_
              refine lv_iadd hx hb dX0_meanLean_52 ?_
              refine lv_istore_n (lv' := [(3, .int (y1_3 + (gI M b6 1))), (6, .ref (ad b6)), (0, .ref (ad y1_0)), (1, .int y1_1), (2, .int y1_2), (4, .int y1_4), (5, .int y1_5)]) hx hb dX0_meanLean_53 rfl hl (by decide) rfl (fun ls hl => ?_)
              refine lv_iinc (v := y1_4 + 1) (lv' := [(4, .int (y1_4 + 1)), (3, .int (y1_3 + (gI M b6 1))), (6, .ref (ad b6)), (0, .ref (ad y1_0)), (1, .int y1_1), (2, .int y1_2), (5, .int y1_5)]) hx hb dX0_meanLean_54 hl (k := 5) rfl rfl (by decide) rfl (fun ls hl => ?_)
              refine lv_iinc (v := y1_5 + 1) (lv' := [(5, .int (y1_5 + 1)), (4, .int (y1_4 + 1)), (3, .int (y1_3 + (gI M b6 1))), (6, .ref (ad b6)), (0, .ref (ad y1_0)), (1, .int y1_1), (2, .int y1_2)]) hx hb dX0_meanLean_57 hl (k := 6) rfl rfl (by decide) rfl (fun ls hl => ?_)
              refine lv_goto (tgt := 8) hx hb dX0_meanLean_60 rfl ?_
              exact ih1 y1_0 y1_1 y1_2 (y1_3 + (gI M b6 1)) (y1_4 + 1) (y1_5 + 1) ky1_0 _ _ h hP hD hT hS ls (lv_sub hl [4, 5, 6, 2, 1, 0] rfl)
  exact L1 FU a0 x1 x2 0 0 0 k0 _ _ h hP hD hT hS ls (lv_sub hl [3, 4, 5, 2, 1, 0] rfl)
set_option maxHeartbeats 4000000 in
set_option maxRecDepth 100000 in
theorem c_X0_leanChange {l : Launch} {D : va_G} {ad : Nat → Nat} {cy : Nat → ClassId} {A : Nat → Prop} {g : CG} {q : SE} (M : MM) (a0 : Nat) (x1 : Int32) (k0 : ok g a0 0 0) {Z : Int32} (h : f_X0_leanChange M a0 x1 = some Z) : Met l yX0_leanChange wsX0_leanChange ({ frames := 3, cells := 0, slots := 0, locals := 68 }) (va_Pc [.ref (ad a0), .int x1] (Wd D ad cy A g q M)) (va_Qi (fun r u => r = Z ∧ u = M) (Wd D ad cy A g q) A) 0 0 A := by
  refine Met.ofW (cc := cX0_leanChange) (maxL := 4) (ret := (some .int)) (by decide) rfl ?_
  intro p e s m args below meth c s₁ B hml hv
  obtain ⟨rfl, hP, hK, hD, hT, hG⟩ := hv
  have hx := B.exec
  have hb := B.bytes
  have hr := B.returns
  have hts := atoms_spec (ws := wsX0_leanChange) B.pre
  have hown : s.vm.findClass RX0 = some m.cls := findClass_of_methodNamed B.named
  have hlocks := B.notSynchronized
  have hS : va_S A s.heap s.heap [] := va_S.rf
  have hl := lv_entry ([.ref (ad a0), .int x1]) (n := 4) (Nat.le_of_ble_eq_true rfl)
  rw [lg_entry_eq]
  generalize (lg_sl ([.ref (ad a0), .int x1]) ++ List.replicate (4 - (lg_sl ([.ref (ad a0), .int x1])).length) Slot.unset).toArray = ls at hl ⊢
  have hl : lv_has ls 4 [(0, .ref (ad a0)), (1, .int x1)] := hl
  unfold f_X0_leanChange at h
  refine lv_aload_n hx hb dX0_leanChange_0 rfl (lv_at hl 0 rfl) ?_
  refine lv_iconst (v := 5) hx hb dX0_leanChange_1 rfl ?_
  refine lv_iload_n hx hb dX0_leanChange_2 rfl (lv_at hl 1 rfl) ?_
  obtain ⟨z1, h1, h⟩ := ob_some h
  refine k_i (va_runV (As := [.int 5, .int x1]) (rest := []) ⟨hx, hb, hml, hown, hts⟩ (c_X0_meanLean (l := l) M a0 5 x1 k0 h1) (cwV 2 hts gX0_leanChange_X0_meanLean rfl rfl rfl hdV_X0_meanLean ⟨Nat.le_of_ble_eq_true rfl, Nat.le_of_ble_eq_true rfl⟩) (pV (T := TX0) hP hK hD hT hG hS k0 (by decide) rfl) rfl rfl hl.1 rfl (lv_room (Nat.le_of_ble_eq_true rfl)) dX0_leanChange_3 ⟨Nat.zero_le _, Nat.zero_le _⟩) hS (fun H locs hP hD hT hS => ?_)
  refine lv_istore_n (lv' := [(2, .int z1), (0, .ref (ad a0)), (1, .int x1)]) hx hb dX0_leanChange_6 rfl hl (by decide) rfl (fun ls hl => ?_)
  refine lv_aload_n hx hb dX0_leanChange_7 rfl (lv_at hl 1 rfl) ?_
  refine lv_iconst (v := 3) hx hb dX0_leanChange_8 rfl ?_
  refine lv_iload_n hx hb dX0_leanChange_9 rfl (lv_at hl 2 rfl) ?_
  obtain ⟨z2, h2, h⟩ := ob_some h
  refine k_i (va_runV (As := [.int 3, .int x1]) (rest := []) ⟨hx, hb, hml, hown, hts⟩ (c_X0_meanLean (l := l) M a0 3 x1 k0 h2) (cwV 2 hts gX0_leanChange_X0_meanLean rfl rfl rfl hdV_X0_meanLean ⟨Nat.le_of_ble_eq_true rfl, Nat.le_of_ble_eq_true rfl⟩) (pV (T := TX0) hP hK hD hT hG hS k0 (by decide) rfl) rfl rfl hl.1 rfl (lv_room (Nat.le_of_ble_eq_true rfl)) dX0_leanChange_10 ⟨Nat.zero_le _, Nat.zero_le _⟩) hS (fun H locs hP hD hT hS => ?_)
  refine lv_istore_n (lv' := [(3, .int z2), (2, .int z1), (0, .ref (ad a0)), (1, .int x1)]) hx hb dX0_leanChange_13 rfl hl (by decide) rfl (fun ls hl => ?_)
  refine lv_iload_n hx hb dX0_leanChange_14 rfl (lv_at hl 1 rfl) ?_
  refine lv_iconst (v := (-1)) hx hb dX0_leanChange_15 rfl ?_
  refine lv_icmp_eq (tgt := 24) hx hb dX0_leanChange_16 rfl (fun c3 => ?_) (fun c3 => ?_)
  · replace h := ite_t c3 h
    refine lv_sipush (v := (-1000)) hx hb dX0_leanChange_24 rfl ?_
    refine lv_goto (tgt := 33) hx hb dX0_leanChange_27 rfl ?_
    exact r_iret hx hb hr hlocks hP hK hD hT hG hS (Option.some.inj h) rfl dX0_leanChange_33
  · replace h := ite_f c3 h
    refine lv_iload_n hx hb dX0_leanChange_19 rfl (lv_at hl 0 rfl) ?_
    refine lv_iconst (v := (-1)) hx hb dX0_leanChange_20 rfl ?_
    refine lv_icmp_ne (tgt := 30) hx hb dX0_leanChange_21 rfl (fun c4 => ?_) (fun c4 => ?_)
    · replace h := ite_f c4 h
      refine lv_iload_n hx hb dX0_leanChange_30 rfl (lv_at hl 1 rfl) ?_
      refine lv_iload_n hx hb dX0_leanChange_31 rfl (lv_at hl 0 rfl) ?_
      refine lv_isub hx hb dX0_leanChange_32 ?_
      exact r_iret hx hb hr hlocks hP hK hD hT hG hS (Option.some.inj h) rfl dX0_leanChange_33
    · replace h := ite_t c4 h
      refine lv_sipush (v := (-1000)) hx hb dX0_leanChange_24 rfl ?_
      refine lv_goto (tgt := 33) hx hb dX0_leanChange_27 rfl ?_
      exact r_iret hx hb hr hlocks hP hK hD hT hG hS (Option.some.inj h) rfl dX0_leanChange_33
set_option maxHeartbeats 4000000 in
set_option maxRecDepth 100000 in
theorem c_X10_shaped {l : Launch} {D : va_G} {ad : Nat → Nat} {cy : Nat → ClassId} {A : Nat → Prop} {g : CG} {q : SE} (M : MM) (a0 : Nat) (x1 : Int32) (k0 : ok g a0 10 0) {Z : Int32} (h : f_X10_shaped M a0 x1 = some Z) : Met l yX10_shaped wsX10_shaped ({ frames := 0, cells := 0, slots := 0, locals := 0 }) (va_Pc [.ref (ad a0), .int x1] (Wd D ad cy A g q M)) (va_Qi (fun r u => r = Z ∧ u = M) (Wd D ad cy A g q) A) 0 0 A := by
  refine Met.ofW (cc := cX10_shaped) (maxL := 2) (ret := (some .int)) (by decide) rfl ?_
  intro p e s m args below meth c s₁ B hml hv
  obtain ⟨rfl, hP, hK, hD, hT, hG⟩ := hv
  have hx := B.exec
  have hb := B.bytes
  have hr := B.returns
  have hts := atoms_spec (ws := wsX10_shaped) B.pre
  have hown : s.vm.findClass RX10 = some m.cls := findClass_of_methodNamed B.named
  have hlocks := B.notSynchronized
  have in10 : ∀ w ∈ u_ws RX10 TX10 3, w ∈ wsX10_shaped := fun w h => List.mem_cons_of_mem _ (List.mem_append_right _ h)
  have hS : va_S A s.heap s.heap [] := va_S.rf
  have hl := lv_entry ([.ref (ad a0), .int x1]) (n := 2) (Nat.le_of_ble_eq_true rfl)
  rw [lg_entry_eq]
  generalize (lg_sl ([.ref (ad a0), .int x1]) ++ List.replicate (2 - (lg_sl ([.ref (ad a0), .int x1])).length) Slot.unset).toArray = ls at hl ⊢
  have hl : lv_has ls 2 [(0, .ref (ad a0)), (1, .int x1)] := hl
  unfold f_X10_shaped at h
  refine lv_iload_n hx hb dX10_shaped_0 rfl (lv_at hl 1 rfl) ?_
  refine lv_sipush (v := (-1000)) hx hb dX10_shaped_1 rfl ?_
  refine lv_icmp_ne (tgt := 9) hx hb dX10_shaped_4 rfl (fun c1 => ?_) (fun c1 => ?_)
  · replace h := ite_f c1 h
    refine lv_iload_n hx hb dX10_shaped_9 rfl (lv_at hl 1 rfl) ?_
    refine lv_iconst (v := 5) hx hb dX10_shaped_10 rfl ?_
    refine lv_icmp_lt (tgt := 28) hx hb dX10_shaped_11 rfl (fun c2 => ?_) (fun c2 => ?_)
    · replace h := ite_t c2 h
      refine lv_aload_n hx hb dX10_shaped_28 rfl (lv_at hl 0 rfl) ?_
      refine r_get (T := TX10) (v := .int (gI M a0 0)) hx hb hts in10 hown hK hP k0 (by decide) rfl 0 (by decide) (hts (.fieldLink RX10 9 "StoneWalk$Way" "kind" "I") (List.mem_of_getElem? (i := 1) (by decide +kernel))) rfl (t := 0) rfl rfl dX10_shaped_29 ?_
      refine lv_if_ne (tgt := 39) hx hb dX10_shaped_32 rfl (fun c3 => ?_) (fun c3 => ?_)
      · replace h := ite_f c3 h
        refine lv_bipush (v := 6) hx hb dX10_shaped_39 rfl ?_
        exact r_iret hx hb hr hlocks hP hK hD hT hG hS (Option.some.inj h) rfl dX10_shaped_41
      · replace h := ite_t c3 h
        refine lv_iconst (v := 2) hx hb dX10_shaped_35 rfl ?_
        refine lv_goto (tgt := 41) hx hb dX10_shaped_36 rfl ?_
        exact r_iret hx hb hr hlocks hP hK hD hT hG hS (Option.some.inj h) rfl dX10_shaped_41
    · replace h := ite_f c2 h
      refine lv_aload_n hx hb dX10_shaped_14 rfl (lv_at hl 0 rfl) ?_
      refine r_get (T := TX10) (v := .int (gI M a0 0)) hx hb hts in10 hown hK hP k0 (by decide) rfl 0 (by decide) (hts (.fieldLink RX10 9 "StoneWalk$Way" "kind" "I") (List.mem_of_getElem? (i := 1) (by decide +kernel))) rfl (t := 0) rfl rfl dX10_shaped_15 ?_
      refine lv_if_ne (tgt := 26) hx hb dX10_shaped_18 rfl (fun c4 => ?_) (fun c4 => ?_)
      · replace h := ite_f c4 h
        refine lv_iconst (v := 3) hx hb dX10_shaped_26 rfl ?_
        exact r_iret hx hb hr hlocks hP hK hD hT hG hS (Option.some.inj h) rfl dX10_shaped_27
      · replace h := ite_t c4 h
        refine lv_bipush (v := 9) hx hb dX10_shaped_21 rfl ?_
        refine lv_goto (tgt := 27) hx hb dX10_shaped_23 rfl ?_
        exact r_iret hx hb hr hlocks hP hK hD hT hG hS (Option.some.inj h) rfl dX10_shaped_27
  · replace h := ite_t c1 h
    refine lv_iconst (v := 1) hx hb dX10_shaped_7 rfl ?_
    exact r_iret hx hb hr hlocks hP hK hD hT hG hS (Option.some.inj h) rfl dX10_shaped_8
set_option maxHeartbeats 4000000 in
set_option maxRecDepth 100000 in
theorem c_X0_oddsOf {l : Launch} {D : va_G} {ad : Nat → Nat} {cy : Nat → ClassId} {A : Nat → Prop} {g : CG} {q : SE} (M : MM) (a0 : Nat) (x1 : Int32) (x2 : Int32) (k0 : ok g a0 0 0) {Z : Int64} (h : f_X0_oddsOf M a0 x1 x2 = some Z) : Met l yX0_oddsOf wsX0_oddsOf ({ frames := 4, cells := 0, slots := 0, locals := 91 }) (va_Pc [.ref (ad a0), .int x1, .int x2] (Wd D ad cy A g q M)) (va_Ql (fun r u => r = Z ∧ u = M) (Wd D ad cy A g q) A) 0 0 A := by
  refine Met.ofW (cc := cX0_oddsOf) (maxL := 8) (ret := (some .long)) (by decide) rfl ?_
  intro p e s m args below meth c s₁ B hml hv
  obtain ⟨rfl, hP, hK, hD, hT, hG⟩ := hv
  have hx := B.exec
  have hb := B.bytes
  have hr := B.returns
  have hts := atoms_spec (ws := wsX0_oddsOf) B.pre
  have hown : s.vm.findClass RX0 = some m.cls := findClass_of_methodNamed B.named
  have hlocks := B.notSynchronized
  have in3 : ∀ w ∈ u_ws RX3 TX3 3, w ∈ wsX0_oddsOf := fun w h => List.mem_cons_of_mem _ (List.mem_append_left _ (List.mem_append_left _ (List.mem_append_right _ h)))
  have in5 : ∀ w ∈ u_ws RX5 TX5 8, w ∈ wsX0_oddsOf := fun w h => List.mem_cons_of_mem _ (List.mem_append_left _ (List.mem_append_left _ (List.mem_append_left _ (List.mem_append_right _ h))))
  have in10 : ∀ w ∈ u_ws RX10 TX10 3, w ∈ wsX0_oddsOf := fun w h => List.mem_cons_of_mem _ (List.mem_append_left _ (List.mem_append_left _ (List.mem_append_left _ (List.mem_append_left _ (List.mem_append_right _ h)))))
  have hS : va_S A s.heap s.heap [] := va_S.rf
  have hl := lv_entry ([.ref (ad a0), .int x1, .int x2]) (n := 8) (Nat.le_of_ble_eq_true rfl)
  rw [lg_entry_eq]
  generalize (lg_sl ([.ref (ad a0), .int x1, .int x2]) ++ List.replicate (8 - (lg_sl ([.ref (ad a0), .int x1, .int x2])).length) Slot.unset).toArray = ls at hl ⊢
  have hl : lv_has ls 8 [(0, .ref (ad a0)), (1, .int x1), (2, .int x2)] := hl
  unfold f_X0_oddsOf at h
  refine lv_aload_n hx hb dX0_oddsOf_0 rfl (lv_at hl 0 rfl) ?_
  refine lv_iload_n hx hb dX0_oddsOf_1 rfl (lv_at hl 1 rfl) ?_
  obtain ⟨z1, h1, h⟩ := ob_some h
  refine k_q (va_runV (As := [.int x1]) (rest := []) ⟨hx, hb, hml, hown, hts⟩ (c_X0_wayAt (l := l) M a0 x1 k0 h1) (cwV 1 hts gX0_oddsOf_X0_wayAt rfl rfl rfl hdV_X0_wayAt ⟨Nat.le_of_ble_eq_true rfl, Nat.le_of_ble_eq_true rfl⟩) (pV (T := TX0) hP hK hD hT hG hS k0 (by decide) rfl) rfl rfl hl.1 rfl (lv_room (Nat.le_of_ble_eq_true rfl)) dX0_oddsOf_2 ⟨Nat.zero_le _, Nat.zero_le _⟩) hS (fun H locs hq1 hP hD hT hS => ?_)
  rcases hN1 : z1 with _ | b1
  · replace h := oc_n hN1 h
    show W _ _ _ _ _ _ _ _ _ _ _ _ _ _ _ (F0 _ _ _ (.null :: []))
    refine lv_astore_nN (lv' := [(3, .null), (0, .ref (ad a0)), (1, .int x1), (2, .int x2)]) hx hb dX0_oddsOf_5 rfl hl (by decide) rfl (fun ls hl => ?_)
    refine lv_aload_nN hx hb dX0_oddsOf_6 rfl (lv_at hl 0 rfl) ?_
    refine lv_ifnonnullN hx hb dX0_oddsOf_7 ?_
    refine lv_lconst (v := 0) hx hb dX0_oddsOf_10 rfl ?_
    exact r_lret hx hb hr hlocks hP hK hD hT hG hS (Option.some.inj h) rfl dX0_oddsOf_11
  · replace h := oc_s hN1 h
    have kb1 := hq1 _ hN1
    show W _ _ _ _ _ _ _ _ _ _ _ _ _ _ _ (F0 _ _ _ (.ref (ad b1) :: []))
    refine lv_astore_n (lv' := [(3, .ref (ad b1)), (0, .ref (ad a0)), (1, .int x1), (2, .int x2)]) hx hb dX0_oddsOf_5 rfl hl (by decide) rfl (fun ls hl => ?_)
    refine lv_aload_n hx hb dX0_oddsOf_6 rfl (lv_at hl 0 rfl) ?_
    refine lv_ifnonnull (tgt := 12) hx hb dX0_oddsOf_7 rfl ?_
    refine lv_aload_n hx hb dX0_oddsOf_12 rfl (lv_at hl 0 rfl) ?_
    refine r_get (T := TX10) (v := .int (gI M b1 1)) hx hb hts in10 hown hK hP kb1 (by decide) rfl 1 (by decide) (hts (.fieldLink RX0 93 "StoneWalk$Way" "weighs" "I") (List.mem_of_getElem? (i := 1) (by decide +kernel))) rfl (t := 0) rfl rfl dX0_oddsOf_13 ?_
    refine lv_i2l hx hb dX0_oddsOf_16 rfl ?_
    refine lv_lstore (lv' := [(4, .long ((gI M b1 1).toInt64)), (3, .ref (ad b1)), (0, .ref (ad a0)), (1, .int x1), (2, .int x2)]) hx hb dX0_oddsOf_17 hl (by decide) rfl (fun ls hl => ?_)
    refine lv_iconst (v := 0) hx hb dX0_oddsOf_19 rfl ?_
    refine lv_istore (lv' := [(6, .int 0), (4, .long ((gI M b1 1).toInt64)), (3, .ref (ad b1)), (0, .ref (ad a0)), (1, .int x1), (2, .int x2)]) hx hb dX0_oddsOf_20 hl (by decide) rfl (fun ls hl => ?_)
    have L2 : ∀ n2 : Nat, ∀ (y2_0 : Nat) (y2_1 : Int32) (y2_2 : Int32) (y2_3 : Nat) (y2_4 : Int64) (y2_6 : Int32) (ky2_0 : ok g y2_0 0 0) (ky2_3 : ok g y2_3 10 0) (H : Heap) (locs : List Loc), f_X0_oddsOf_L22 n2 M y2_0 y2_1 y2_2 y2_3 y2_4 y2_6 = some Z → va_P D vwCl (wd ad cy g M) H → va_D A (wd ad cy g M) → WT g M → va_S A s.heap H locs → ∀ (ls : Array Slot), lv_has ls 8 [(0, .ref (ad y2_0)), (1, .int y2_1), (2, .int y2_2), (3, .ref (ad y2_3)), (4, .long y2_4), (6, .int y2_6)] → W p l e ((headSpec wsX0_oddsOf ({ frames := 4, cells := 0, slots := 0, locals := 91 })).room) s m (([.ref (ad a0), .int x1, .int x2] : List Value).toArray) below meth c H locs 0 0 (MQ below (va_Ql (fun r u => r = Z ∧ u = M) (Wd D ad cy A g q) A) ([.ref (ad a0), .int x1, .int x2]).toArray s 0 0 A) (F0 m 22 ls []) := by
      intro n2
      induction n2 with
      | zero => intro y2_0 y2_1 y2_2 y2_3 y2_4 y2_6 ky2_0 ky2_3 H locs h; exact absurd h (by simp [f_X0_oddsOf_L22])
      | succ n2 ih2 =>
        intro y2_0 y2_1 y2_2 y2_3 y2_4 y2_6 ky2_0 ky2_3 H locs h hP hD hT hS ls hl
        rw [f_X0_oddsOf_L22] at h
        refine lv_iload hx hb dX0_oddsOf_22 (lv_at hl 5 rfl) ?_
        refine lv_aload_n hx hb dX0_oddsOf_24 rfl (lv_at hl 0 rfl) ?_
        refine lv_iconst (v := 2) hx hb dX0_oddsOf_25 rfl ?_
        obtain ⟨z3, h3, h⟩ := ob_some h
        refine k_i (va_runV (As := [.int 2]) (rest := [.int y2_6]) ⟨hx, hb, hml, hown, hts⟩ (c_X0_count (l := l) M y2_0 2 ky2_0 h3) (cwV 1 hts gX0_oddsOf_X0_count rfl rfl rfl hdV_X0_count ⟨Nat.le_of_ble_eq_true rfl, Nat.le_of_ble_eq_true rfl⟩) (pV (T := TX0) hP hK hD hT hG hS ky2_0 (by decide) rfl) rfl rfl hl.1 rfl (lv_room (Nat.le_of_ble_eq_true rfl)) dX0_oddsOf_26 ⟨Nat.zero_le _, Nat.zero_le _⟩) hS (fun H locs hP hD hT hS => ?_)
        refine lv_icmp_ge (tgt := 85) hx hb dX0_oddsOf_29 rfl (fun c4 => ?_) (fun c4 => ?_)
        · replace h := ite_t c4 h
          refine lv_iconst (v := 0) hx hb dX0_oddsOf_85 rfl ?_
          refine lv_istore (lv' := [(6, .int 0), (0, .ref (ad y2_0)), (1, .int y2_1), (2, .int y2_2), (3, .ref (ad y2_3)), (4, .long y2_4)]) hx hb dX0_oddsOf_86 hl (by decide) rfl (fun ls hl => ?_)
          have L5 : ∀ n5 : Nat, ∀ (y5_0 : Nat) (y5_1 : Int32) (y5_2 : Int32) (y5_3 : Nat) (y5_4 : Int64) (y5_6 : Int32) (ky5_0 : ok g y5_0 0 0) (ky5_3 : ok g y5_3 10 0) (H : Heap) (locs : List Loc), f_X0_oddsOf_L88 (fun M y2_0 y2_1 y2_2 y2_3 y2_4 y2_6 => f_X0_oddsOf_L22 n2 M y2_0 y2_1 y2_2 y2_3 y2_4 y2_6) n5 M y5_0 y5_1 y5_2 y5_3 y5_4 y5_6 = some Z → va_P D vwCl (wd ad cy g M) H → va_D A (wd ad cy g M) → WT g M → va_S A s.heap H locs → ∀ (ls : Array Slot), lv_has ls 8 [(0, .ref (ad y5_0)), (1, .int y5_1), (2, .int y5_2), (3, .ref (ad y5_3)), (4, .long y5_4), (6, .int y5_6)] → W p l e ((headSpec wsX0_oddsOf ({ frames := 4, cells := 0, slots := 0, locals := 91 })).room) s m (([.ref (ad a0), .int x1, .int x2] : List Value).toArray) below meth c H locs 0 0 (MQ below (va_Ql (fun r u => r = Z ∧ u = M) (Wd D ad cy A g q) A) ([.ref (ad a0), .int x1, .int x2]).toArray s 0 0 A) (F0 m 88 ls []) := by
            intro n5
            induction n5 with
            | zero => intro y5_0 y5_1 y5_2 y5_3 y5_4 y5_6 ky5_0 ky5_3 H locs h; exact absurd h (by simp [f_X0_oddsOf_L88])
            | succ n5 ih5 =>
              intro y5_0 y5_1 y5_2 y5_3 y5_4 y5_6 ky5_0 ky5_3 H locs h hP hD hT hS ls hl
              rw [f_X0_oddsOf_L88] at h
              refine lv_iload hx hb dX0_oddsOf_88 (lv_at hl 5 rfl) ?_
              refine lv_aload_n hx hb dX0_oddsOf_90 rfl (lv_at hl 0 rfl) ?_
              refine lv_iconst (v := 1) hx hb dX0_oddsOf_91 rfl ?_
              obtain ⟨z6, h6, h⟩ := ob_some h
              refine k_i (va_runV (As := [.int 1]) (rest := [.int y5_6]) ⟨hx, hb, hml, hown, hts⟩ (c_X0_count (l := l) M y5_0 1 ky5_0 h6) (cwV 1 hts gX0_oddsOf_X0_count rfl rfl rfl hdV_X0_count ⟨Nat.le_of_ble_eq_true rfl, Nat.le_of_ble_eq_true rfl⟩) (pV (T := TX0) hP hK hD hT hG hS ky5_0 (by decide) rfl) rfl rfl hl.1 rfl (lv_room (Nat.le_of_ble_eq_true rfl)) dX0_oddsOf_92 ⟨Nat.zero_le _, Nat.zero_le _⟩) hS (fun H locs hP hD hT hS => ?_)
              refine lv_icmp_ge (tgt := 132) hx hb dX0_oddsOf_95 rfl (fun c7 => ?_) (fun c7 => ?_)
              · replace h := ite_t c7 h
                refine lv_iconst (v := 0) hx hb dX0_oddsOf_132 rfl ?_
                refine lv_istore (lv' := [(6, .int 0), (0, .ref (ad y5_0)), (1, .int y5_1), (2, .int y5_2), (3, .ref (ad y5_3)), (4, .long y5_4)]) hx hb dX0_oddsOf_133 hl (by decide) rfl (fun ls hl => ?_)
                have L8 : ∀ n8 : Nat, ∀ (y8_0 : Nat) (y8_1 : Int32) (y8_2 : Int32) (y8_3 : Nat) (y8_4 : Int64) (y8_6 : Int32) (ky8_0 : ok g y8_0 0 0) (ky8_3 : ok g y8_3 10 0) (H : Heap) (locs : List Loc), f_X0_oddsOf_L135 (fun M y2_0 y2_1 y2_2 y2_3 y2_4 y2_6 => f_X0_oddsOf_L22 n2 M y2_0 y2_1 y2_2 y2_3 y2_4 y2_6) (fun M y5_0 y5_1 y5_2 y5_3 y5_4 y5_6 => f_X0_oddsOf_L88 (fun M y2_0 y2_1 y2_2 y2_3 y2_4 y2_6 => f_X0_oddsOf_L22 n2 M y2_0 y2_1 y2_2 y2_3 y2_4 y2_6) n5 M y5_0 y5_1 y5_2 y5_3 y5_4 y5_6) n8 M y8_0 y8_1 y8_2 y8_3 y8_4 y8_6 = some Z → va_P D vwCl (wd ad cy g M) H → va_D A (wd ad cy g M) → WT g M → va_S A s.heap H locs → ∀ (ls : Array Slot), lv_has ls 8 [(0, .ref (ad y8_0)), (1, .int y8_1), (2, .int y8_2), (3, .ref (ad y8_3)), (4, .long y8_4), (6, .int y8_6)] → W p l e ((headSpec wsX0_oddsOf ({ frames := 4, cells := 0, slots := 0, locals := 91 })).room) s m (([.ref (ad a0), .int x1, .int x2] : List Value).toArray) below meth c H locs 0 0 (MQ below (va_Ql (fun r u => r = Z ∧ u = M) (Wd D ad cy A g q) A) ([.ref (ad a0), .int x1, .int x2]).toArray s 0 0 A) (F0 m 135 ls []) := by
                  intro n8
                  induction n8 with
                  | zero => intro y8_0 y8_1 y8_2 y8_3 y8_4 y8_6 ky8_0 ky8_3 H locs h; exact absurd h (by simp [f_X0_oddsOf_L135])
                  | succ n8 ih8 =>
                    intro y8_0 y8_1 y8_2 y8_3 y8_4 y8_6 ky8_0 ky8_3 H locs h hP hD hT hS ls hl
                    rw [f_X0_oddsOf_L135] at h
                    refine lv_iload hx hb dX0_oddsOf_135 (lv_at hl 5 rfl) ?_
                    refine lv_aload_n hx hb dX0_oddsOf_137 rfl (lv_at hl 0 rfl) ?_
                    refine lv_iconst (v := 5) hx hb dX0_oddsOf_138 rfl ?_
                    obtain ⟨z9, h9, h⟩ := ob_some h
                    refine k_i (va_runV (As := [.int 5]) (rest := [.int y8_6]) ⟨hx, hb, hml, hown, hts⟩ (c_X0_count (l := l) M y8_0 5 ky8_0 h9) (cwV 1 hts gX0_oddsOf_X0_count rfl rfl rfl hdV_X0_count ⟨Nat.le_of_ble_eq_true rfl, Nat.le_of_ble_eq_true rfl⟩) (pV (T := TX0) hP hK hD hT hG hS ky8_0 (by decide) rfl) rfl rfl hl.1 rfl (lv_room (Nat.le_of_ble_eq_true rfl)) dX0_oddsOf_139 ⟨Nat.zero_le _, Nat.zero_le _⟩) hS (fun H locs hP hD hT hS => ?_)
                    refine lv_icmp_ge (tgt := 176) hx hb dX0_oddsOf_142 rfl (fun c10 => ?_) (fun c10 => ?_)
                    · replace h := ite_t c10 h
                      refine lv_lload hx hb dX0_oddsOf_176 (lv_at hl 4 rfl) ?_
                      refine lv_aload_n hx hb dX0_oddsOf_178 rfl (lv_at hl 3 rfl) ?_
                      refine lv_aload_n hx hb dX0_oddsOf_179 rfl (lv_at hl 0 rfl) ?_
                      refine lv_iload_n hx hb dX0_oddsOf_180 rfl (lv_at hl 2 rfl) ?_
                      obtain ⟨z11, h11, h⟩ := ob_some h
                      refine k_i (va_runV (As := [.int y8_2]) (rest := [.ref (ad y8_3), .long y8_4]) ⟨hx, hb, hml, hown, hts⟩ (c_X0_leanChange (l := l) M y8_0 y8_2 ky8_0 h11) (cwV 1 hts gX0_oddsOf_X0_leanChange rfl rfl rfl hdV_X0_leanChange ⟨Nat.le_of_ble_eq_true rfl, Nat.le_of_ble_eq_true rfl⟩) (pV (T := TX0) hP hK hD hT hG hS ky8_0 (by decide) rfl) rfl rfl hl.1 rfl (lv_room (Nat.le_of_ble_eq_true rfl)) dX0_oddsOf_181 ⟨Nat.zero_le _, Nat.zero_le _⟩) hS (fun H locs hP hD hT hS => ?_)
                      obtain ⟨z12, h12, h⟩ := ob_some h
                      refine k_i (va_runV (As := [.int z11]) (rest := [.long y8_4]) ⟨hx, hb, hml, hown, hts⟩ (c_X10_shaped (l := l) M y8_3 z11 ky8_3 h12) (cwV 1 hts gX0_oddsOf_X10_shaped rfl rfl rfl hdV_X10_shaped ⟨Nat.le_of_ble_eq_true rfl, Nat.le_of_ble_eq_true rfl⟩) (pV (T := TX10) hP hK hD hT hG hS ky8_3 (by decide) rfl) rfl rfl hl.1 rfl (lv_room (Nat.le_of_ble_eq_true rfl)) dX0_oddsOf_184 ⟨Nat.zero_le _, Nat.zero_le _⟩) hS (fun H locs hP hD hT hS => ?_)
                      refine lv_i2l hx hb dX0_oddsOf_187 rfl ?_
                      refine lv_lmul hx hb dX0_oddsOf_188 ?_
                      exact r_lret hx hb hr hlocks hP hK hD hT hG hS (Option.some.inj h) rfl dX0_oddsOf_189
                    · replace h := ite_f c10 h
                      refine lv_aload_n hx hb dX0_oddsOf_145 rfl (lv_at hl 0 rfl) ?_
                      refine lv_iload hx hb dX0_oddsOf_146 (lv_at hl 5 rfl) ?_
                      obtain ⟨z13, h13, h⟩ := ob_some h
                      refine k_q (va_runV (As := [.int y8_6]) (rest := []) ⟨hx, hb, hml, hown, hts⟩ (c_X0_tellerAt (l := l) M y8_0 y8_6 ky8_0 h13) (cwV 1 hts gX0_oddsOf_X0_tellerAt rfl rfl rfl hdV_X0_tellerAt ⟨Nat.le_of_ble_eq_true rfl, Nat.le_of_ble_eq_true rfl⟩) (pV (T := TX0) hP hK hD hT hG hS ky8_0 (by decide) rfl) rfl rfl hl.1 rfl (lv_room (Nat.le_of_ble_eq_true rfl)) dX0_oddsOf_148 ⟨Nat.zero_le _, Nat.zero_le _⟩) hS (fun H locs hq13 hP hD hT hS => ?_)
                      rcases hN13 : z13 with _ | b13
                      · replace h := oc_n hN13 h
                        show W _ _ _ _ _ _ _ _ _ _ _ _ _ _ _ (F0 _ _ _ (.null :: []))
                        refine lv_astoreN (lv' := [(7, .null), (0, .ref (ad y8_0)), (1, .int y8_1), (2, .int y8_2), (3, .ref (ad y8_3)), (4, .long y8_4), (6, .int y8_6)]) hx hb dX0_oddsOf_151 hl (by decide) rfl (fun ls hl => ?_)
                        refine lv_aloadN hx hb dX0_oddsOf_153 (lv_at hl 0 rfl) ?_
                        refine lv_ifnullN (tgt := 170) hx hb dX0_oddsOf_155 rfl ?_
                        refine lv_iinc (v := y8_6 + 1) (lv' := [(6, .int (y8_6 + 1)), (7, .null), (0, .ref (ad y8_0)), (1, .int y8_1), (2, .int y8_2), (3, .ref (ad y8_3)), (4, .long y8_4)]) hx hb dX0_oddsOf_170 hl (k := 6) rfl rfl (by decide) rfl (fun ls hl => ?_)
                        refine lv_goto (tgt := 135) hx hb dX0_oddsOf_173 rfl ?_
                        exact ih8 y8_0 y8_1 y8_2 y8_3 y8_4 (y8_6 + 1) ky8_0 ky8_3 _ _ h hP hD hT hS ls (lv_sub hl [2, 3, 4, 5, 6, 0] rfl)
                      · replace h := oc_s hN13 h
                        have kb13 := hq13 _ hN13
                        show W _ _ _ _ _ _ _ _ _ _ _ _ _ _ _ (F0 _ _ _ (.ref (ad b13) :: []))
                        refine lv_astore (lv' := [(7, .ref (ad b13)), (0, .ref (ad y8_0)), (1, .int y8_1), (2, .int y8_2), (3, .ref (ad y8_3)), (4, .long y8_4), (6, .int y8_6)]) hx hb dX0_oddsOf_151 hl (by decide) rfl (fun ls hl => ?_)
                        refine lv_aload hx hb dX0_oddsOf_153 (lv_at hl 0 rfl) ?_
                        refine lv_ifnull hx hb dX0_oddsOf_155 ?_
                        refine lv_lload hx hb dX0_oddsOf_158 (lv_at hl 5 rfl) ?_
                        refine lv_aload hx hb dX0_oddsOf_160 (lv_at hl 0 rfl) ?_
                        refine lv_iload_n hx hb dX0_oddsOf_162 rfl (lv_at hl 2 rfl) ?_
                        obtain ⟨z14, h14, h⟩ := ob_some h
                        refine k_i (va_runV (As := [.int y8_1]) (rest := [.long y8_4]) ⟨hx, hb, hml, hown, hts⟩ (c_X8_favour (l := l) M b13 y8_1 kb13 h14) (cwV 1 hts gX0_oddsOf_X8_favour rfl rfl rfl hdV_X8_favour ⟨Nat.le_of_ble_eq_true rfl, Nat.le_of_ble_eq_true rfl⟩) (pV (T := TX8) hP hK hD hT hG hS kb13 (by decide) rfl) rfl rfl hl.1 rfl (lv_room (Nat.le_of_ble_eq_true rfl)) dX0_oddsOf_163 ⟨Nat.zero_le _, Nat.zero_le _⟩) hS (fun H locs hP hD hT hS => ?_)
                        refine lv_i2l hx hb dX0_oddsOf_166 rfl ?_
                        refine lv_lmul hx hb dX0_oddsOf_167 ?_
                        refine lv_lstore (lv' := [(4, .long (y8_4 * z14.toInt64)), (7, .ref (ad b13)), (0, .ref (ad y8_0)), (1, .int y8_1), (2, .int y8_2), (3, .ref (ad y8_3)), (6, .int y8_6)]) hx hb dX0_oddsOf_168 hl (by decide) rfl (fun ls hl => ?_)
                        refine lv_iinc (v := y8_6 + 1) (lv' := [(6, .int (y8_6 + 1)), (4, .long (y8_4 * z14.toInt64)), (7, .ref (ad b13)), (0, .ref (ad y8_0)), (1, .int y8_1), (2, .int y8_2), (3, .ref (ad y8_3))]) hx hb dX0_oddsOf_170 hl (k := 6) rfl rfl (by decide) rfl (fun ls hl => ?_)
                        refine lv_goto (tgt := 135) hx hb dX0_oddsOf_173 rfl ?_
                        exact ih8 y8_0 y8_1 y8_2 y8_3 (y8_4 * z14.toInt64) (y8_6 + 1) ky8_0 ky8_3 _ _ h hP hD hT hS ls (lv_sub hl [3, 4, 5, 6, 1, 0] rfl)
                exact L8 FU y5_0 y5_1 y5_2 y5_3 y5_4 0 ky5_0 ky5_3 _ _ h hP hD hT hS ls (lv_sub hl [1, 2, 3, 4, 5, 0] rfl)
              · replace h := ite_f c7 h
                refine lv_aload_n hx hb dX0_oddsOf_98 rfl (lv_at hl 0 rfl) ?_
                refine lv_iload hx hb dX0_oddsOf_99 (lv_at hl 5 rfl) ?_
                obtain ⟨z15, h15, h⟩ := ob_some h
                refine k_q (va_runV (As := [.int y5_6]) (rest := []) ⟨hx, hb, hml, hown, hts⟩ (c_X0_roadAt (l := l) M y5_0 y5_6 ky5_0 h15) (cwV 1 hts gX0_oddsOf_X0_roadAt rfl rfl rfl hdV_X0_roadAt ⟨Nat.le_of_ble_eq_true rfl, Nat.le_of_ble_eq_true rfl⟩) (pV (T := TX0) hP hK hD hT hG hS ky5_0 (by decide) rfl) rfl rfl hl.1 rfl (lv_room (Nat.le_of_ble_eq_true rfl)) dX0_oddsOf_101 ⟨Nat.zero_le _, Nat.zero_le _⟩) hS (fun H locs hq15 hP hD hT hS => ?_)
                rcases hN15 : z15 with _ | b15
                · replace h := oc_n hN15 h
                  show W _ _ _ _ _ _ _ _ _ _ _ _ _ _ _ (F0 _ _ _ (.null :: []))
                  refine lv_astoreN (lv' := [(7, .null), (0, .ref (ad y5_0)), (1, .int y5_1), (2, .int y5_2), (3, .ref (ad y5_3)), (4, .long y5_4), (6, .int y5_6)]) hx hb dX0_oddsOf_104 hl (by decide) rfl (fun ls hl => ?_)
                  refine lv_aloadN hx hb dX0_oddsOf_106 (lv_at hl 0 rfl) ?_
                  refine lv_ifnullN (tgt := 126) hx hb dX0_oddsOf_108 rfl ?_
                  refine lv_iinc (v := y5_6 + 1) (lv' := [(6, .int (y5_6 + 1)), (7, .null), (0, .ref (ad y5_0)), (1, .int y5_1), (2, .int y5_2), (3, .ref (ad y5_3)), (4, .long y5_4)]) hx hb dX0_oddsOf_126 hl (k := 6) rfl rfl (by decide) rfl (fun ls hl => ?_)
                  refine lv_goto (tgt := 88) hx hb dX0_oddsOf_129 rfl ?_
                  exact ih5 y5_0 y5_1 y5_2 y5_3 y5_4 (y5_6 + 1) ky5_0 ky5_3 _ _ h hP hD hT hS ls (lv_sub hl [2, 3, 4, 5, 6, 0] rfl)
                · replace h := oc_s hN15 h
                  have kb15 := hq15 _ hN15
                  show W _ _ _ _ _ _ _ _ _ _ _ _ _ _ _ (F0 _ _ _ (.ref (ad b15) :: []))
                  refine lv_astore (lv' := [(7, .ref (ad b15)), (0, .ref (ad y5_0)), (1, .int y5_1), (2, .int y5_2), (3, .ref (ad y5_3)), (4, .long y5_4), (6, .int y5_6)]) hx hb dX0_oddsOf_104 hl (by decide) rfl (fun ls hl => ?_)
                  refine lv_aload hx hb dX0_oddsOf_106 (lv_at hl 0 rfl) ?_
                  refine lv_ifnull hx hb dX0_oddsOf_108 ?_
                  refine lv_lload hx hb dX0_oddsOf_111 (lv_at hl 5 rfl) ?_
                  refine lv_aload_n hx hb dX0_oddsOf_113 rfl (lv_at hl 4 rfl) ?_
                  refine lv_aload hx hb dX0_oddsOf_114 (lv_at hl 0 rfl) ?_
                  refine r_get (T := TX3) (v := .int (gI M b15 0)) hx hb hts in3 hown hK hP kb15 (by decide) rfl 0 (by decide) (hts (.fieldLink RX0 118 "StoneWalk$Road" "hollow" "I") (List.mem_of_getElem? (i := 4) (by decide +kernel))) rfl (t := 0) rfl rfl dX0_oddsOf_116 ?_
                  obtain ⟨z16, h16, h⟩ := ob_some h
                  refine k_i (va_runV (As := [.int (gI M b15 0)]) (rest := [.long y5_4]) ⟨hx, hb, hml, hown, hts⟩ (c_X10_hollowed (l := l) M y5_3 (gI M b15 0) ky5_3 h16) (cwV 1 hts gX0_oddsOf_X10_hollowed rfl rfl rfl hdV_X10_hollowed ⟨Nat.le_of_ble_eq_true rfl, Nat.le_of_ble_eq_true rfl⟩) (pV (T := TX10) hP hK hD hT hG hS ky5_3 (by decide) rfl) rfl rfl hl.1 rfl (lv_room (Nat.le_of_ble_eq_true rfl)) dX0_oddsOf_119 ⟨Nat.zero_le _, Nat.zero_le _⟩) hS (fun H locs hP hD hT hS => ?_)
                  refine lv_i2l hx hb dX0_oddsOf_122 rfl ?_
                  refine lv_lmul hx hb dX0_oddsOf_123 ?_
                  refine lv_lstore (lv' := [(4, .long (y5_4 * z16.toInt64)), (7, .ref (ad b15)), (0, .ref (ad y5_0)), (1, .int y5_1), (2, .int y5_2), (3, .ref (ad y5_3)), (6, .int y5_6)]) hx hb dX0_oddsOf_124 hl (by decide) rfl (fun ls hl => ?_)
                  refine lv_iinc (v := y5_6 + 1) (lv' := [(6, .int (y5_6 + 1)), (4, .long (y5_4 * z16.toInt64)), (7, .ref (ad b15)), (0, .ref (ad y5_0)), (1, .int y5_1), (2, .int y5_2), (3, .ref (ad y5_3))]) hx hb dX0_oddsOf_126 hl (k := 6) rfl rfl (by decide) rfl (fun ls hl => ?_)
                  refine lv_goto (tgt := 88) hx hb dX0_oddsOf_129 rfl ?_
                  exact ih5 y5_0 y5_1 y5_2 y5_3 (y5_4 * z16.toInt64) (y5_6 + 1) ky5_0 ky5_3 _ _ h hP hD hT hS ls (lv_sub hl [3, 4, 5, 6, 1, 0] rfl)
          exact L5 FU y2_0 y2_1 y2_2 y2_3 y2_4 0 ky2_0 ky2_3 _ _ h hP hD hT hS ls (lv_sub hl [1, 2, 3, 4, 5, 0] rfl)
        · replace h := ite_f c4 h
          refine lv_aload_n hx hb dX0_oddsOf_32 rfl (lv_at hl 0 rfl) ?_
          refine lv_iload hx hb dX0_oddsOf_33 (lv_at hl 5 rfl) ?_
          obtain ⟨z17, h17, h⟩ := ob_some h
          refine k_q (va_runV (As := [.int y2_6]) (rest := []) ⟨hx, hb, hml, hown, hts⟩ (c_X0_statueAt (l := l) M y2_0 y2_6 ky2_0 h17) (cwV 1 hts gX0_oddsOf_X0_statueAt rfl rfl rfl hdV_X0_statueAt ⟨Nat.le_of_ble_eq_true rfl, Nat.le_of_ble_eq_true rfl⟩) (pV (T := TX0) hP hK hD hT hG hS ky2_0 (by decide) rfl) rfl rfl hl.1 rfl (lv_room (Nat.le_of_ble_eq_true rfl)) dX0_oddsOf_35 ⟨Nat.zero_le _, Nat.zero_le _⟩) hS (fun H locs hq17 hP hD hT hS => ?_)
          rcases hN17 : z17 with _ | b17
          · replace h := oc_n hN17 h
            show W _ _ _ _ _ _ _ _ _ _ _ _ _ _ _ (F0 _ _ _ (.null :: []))
            refine lv_astoreN (lv' := [(7, .null), (0, .ref (ad y2_0)), (1, .int y2_1), (2, .int y2_2), (3, .ref (ad y2_3)), (4, .long y2_4), (6, .int y2_6)]) hx hb dX0_oddsOf_38 hl (by decide) rfl (fun ls hl => ?_)
            refine lv_aloadN hx hb dX0_oddsOf_40 (lv_at hl 0 rfl) ?_
            refine lv_ifnullN (tgt := 79) hx hb dX0_oddsOf_42 rfl ?_
            refine lv_iinc (v := y2_6 + 1) (lv' := [(6, .int (y2_6 + 1)), (7, .null), (0, .ref (ad y2_0)), (1, .int y2_1), (2, .int y2_2), (3, .ref (ad y2_3)), (4, .long y2_4)]) hx hb dX0_oddsOf_79 hl (k := 6) rfl rfl (by decide) rfl (fun ls hl => ?_)
            refine lv_goto (tgt := 22) hx hb dX0_oddsOf_82 rfl ?_
            exact ih2 y2_0 y2_1 y2_2 y2_3 y2_4 (y2_6 + 1) ky2_0 ky2_3 _ _ h hP hD hT hS ls (lv_sub hl [2, 3, 4, 5, 6, 0] rfl)
          · replace h := oc_s hN17 h
            have kb17 := hq17 _ hN17
            show W _ _ _ _ _ _ _ _ _ _ _ _ _ _ _ (F0 _ _ _ (.ref (ad b17) :: []))
            refine lv_astore (lv' := [(7, .ref (ad b17)), (0, .ref (ad y2_0)), (1, .int y2_1), (2, .int y2_2), (3, .ref (ad y2_3)), (4, .long y2_4), (6, .int y2_6)]) hx hb dX0_oddsOf_38 hl (by decide) rfl (fun ls hl => ?_)
            refine lv_aload hx hb dX0_oddsOf_40 (lv_at hl 0 rfl) ?_
            refine lv_ifnull hx hb dX0_oddsOf_42 ?_
            refine lv_aload hx hb dX0_oddsOf_45 (lv_at hl 0 rfl) ?_
            obtain ⟨z18, h18, h⟩ := ob_some h
            refine k_z (va_runV (As := []) (rest := []) ⟨hx, hb, hml, hown, hts⟩ (c_X5_isLying (l := l) M b17 kb17 h18) (cwV 0 hts gX0_oddsOf_X5_isLying rfl rfl rfl hdV_X5_isLying ⟨Nat.le_of_ble_eq_true rfl, Nat.le_of_ble_eq_true rfl⟩) (pV (T := TX5) hP hK hD hT hG hS kb17 (by decide) rfl) rfl rfl hl.1 rfl (lv_room (Nat.le_of_ble_eq_true rfl)) dX0_oddsOf_47 ⟨Nat.zero_le _, Nat.zero_le _⟩) hS (fun H locs hz18 hP hD hT hS => ?_)
            refine lv_if_eq (tgt := 79) hx hb dX0_oddsOf_50 rfl (fun c19 => ?_) (fun c19 => ?_)
            · replace h := ite_t c19 h
              refine lv_iinc (v := y2_6 + 1) (lv' := [(6, .int (y2_6 + 1)), (7, .ref (ad b17)), (0, .ref (ad y2_0)), (1, .int y2_1), (2, .int y2_2), (3, .ref (ad y2_3)), (4, .long y2_4)]) hx hb dX0_oddsOf_79 hl (k := 6) rfl rfl (by decide) rfl (fun ls hl => ?_)
              refine lv_goto (tgt := 22) hx hb dX0_oddsOf_82 rfl ?_
              exact ih2 y2_0 y2_1 y2_2 y2_3 y2_4 (y2_6 + 1) ky2_0 ky2_3 _ _ h hP hD hT hS ls (lv_sub hl [2, 3, 4, 5, 6, 0] rfl)
            · replace h := ite_f c19 h
              refine lv_iload hx hb dX0_oddsOf_53 (lv_at hl 6 rfl) ?_
              refine lv_iload_n hx hb dX0_oddsOf_55 rfl (lv_at hl 3 rfl) ?_
              refine lv_icmp_eq (tgt := 79) hx hb dX0_oddsOf_56 rfl (fun c20 => ?_) (fun c20 => ?_)
              · replace h := ite_t c20 h
                refine lv_iinc (v := y2_6 + 1) (lv' := [(6, .int (y2_6 + 1)), (7, .ref (ad b17)), (0, .ref (ad y2_0)), (1, .int y2_1), (2, .int y2_2), (3, .ref (ad y2_3)), (4, .long y2_4)]) hx hb dX0_oddsOf_79 hl (k := 6) rfl rfl (by decide) rfl (fun ls hl => ?_)
                refine lv_goto (tgt := 22) hx hb dX0_oddsOf_82 rfl ?_
                exact ih2 y2_0 y2_1 y2_2 y2_3 y2_4 (y2_6 + 1) ky2_0 ky2_3 _ _ h hP hD hT hS ls (lv_sub hl [2, 3, 4, 5, 6, 0] rfl)
              · replace h := ite_f c20 h
                refine lv_lload hx hb dX0_oddsOf_59 (lv_at hl 5 rfl) ?_
                refine lv_aload_n hx hb dX0_oddsOf_61 rfl (lv_at hl 4 rfl) ?_
                refine lv_aload hx hb dX0_oddsOf_62 (lv_at hl 0 rfl) ?_
                refine r_get (T := TX5) (v := .int (gI M b17 7)) hx hb hts in5 hown hK hP kb17 (by decide) rfl 7 (by decide) (hts (.fieldLink RX0 104 "StoneWalk$Stone" "slope" "I") (List.mem_of_getElem? (i := 2) (by decide +kernel))) rfl (t := 0) rfl rfl dX0_oddsOf_64 ?_
                refine lv_aload hx hb dX0_oddsOf_67 (lv_at hl 0 rfl) ?_
                refine r_get (T := TX5) (v := .int (gI M b17 4)) hx hb hts in5 hown hK hP kb17 (by decide) rfl 4 (by decide) (hts (.fieldLink RX0 107 "StoneWalk$Stone" "lie" "I") (List.mem_of_getElem? (i := 3) (by decide +kernel))) rfl (t := 0) rfl rfl dX0_oddsOf_69 ?_
                obtain ⟨z21, h21, h⟩ := ob_some h
                refine k_i (va_runV (As := [.int (gI M b17 7), .int (gI M b17 4)]) (rest := [.long y2_4]) ⟨hx, hb, hml, hown, hts⟩ (c_X10_tenths (l := l) M y2_3 (gI M b17 7) (gI M b17 4) ky2_3 h21) (cwV 2 hts gX0_oddsOf_X10_tenths rfl rfl rfl hdV_X10_tenths ⟨Nat.le_of_ble_eq_true rfl, Nat.le_of_ble_eq_true rfl⟩) (pV (T := TX10) hP hK hD hT hG hS ky2_3 (by decide) rfl) rfl rfl hl.1 rfl (lv_room (Nat.le_of_ble_eq_true rfl)) dX0_oddsOf_72 ⟨Nat.zero_le _, Nat.zero_le _⟩) hS (fun H locs hP hD hT hS => ?_)
                refine lv_i2l hx hb dX0_oddsOf_75 rfl ?_
                refine lv_lmul hx hb dX0_oddsOf_76 ?_
                refine lv_lstore (lv' := [(4, .long (y2_4 * z21.toInt64)), (7, .ref (ad b17)), (0, .ref (ad y2_0)), (1, .int y2_1), (2, .int y2_2), (3, .ref (ad y2_3)), (6, .int y2_6)]) hx hb dX0_oddsOf_77 hl (by decide) rfl (fun ls hl => ?_)
                refine lv_iinc (v := y2_6 + 1) (lv' := [(6, .int (y2_6 + 1)), (4, .long (y2_4 * z21.toInt64)), (7, .ref (ad b17)), (0, .ref (ad y2_0)), (1, .int y2_1), (2, .int y2_2), (3, .ref (ad y2_3))]) hx hb dX0_oddsOf_79 hl (k := 6) rfl rfl (by decide) rfl (fun ls hl => ?_)
                refine lv_goto (tgt := 22) hx hb dX0_oddsOf_82 rfl ?_
                exact ih2 y2_0 y2_1 y2_2 y2_3 (y2_4 * z21.toInt64) (y2_6 + 1) ky2_0 ky2_3 _ _ h hP hD hT hS ls (lv_sub hl [3, 4, 5, 6, 1, 0] rfl)
    exact L2 FU a0 x1 x2 b1 ((gI M b1 1).toInt64) 0 k0 kb1 _ _ h hP hD hT hS ls (lv_sub hl [3, 4, 5, 2, 1, 0] rfl)
set_option maxHeartbeats 4000000 in
set_option maxRecDepth 100000 in
theorem c_X0_oddsOfAll {l : Launch} {D : va_G} {ad : Nat → Nat} {cy : Nat → ClassId} {A : Nat → Prop} {g : CG} {q : SE} (M : MM) (a0 : Nat) (k0 : ok g a0 0 0) {Z : Int64} (h : f_X0_oddsOfAll M a0 = some Z) : Met l yX0_oddsOfAll wsX0_oddsOfAll ({ frames := 5, cells := 0, slots := 0, locals := 118 }) (va_Pc [.ref (ad a0)] (Wd D ad cy A g q M)) (va_Ql (fun r u => r = Z ∧ u = M) (Wd D ad cy A g q) A) 0 0 A := by
  refine Met.ofW (cc := cX0_oddsOfAll) (maxL := 4) (ret := (some .long)) (by decide) rfl ?_
  intro p e s m args below meth c s₁ B hml hv
  obtain ⟨rfl, hP, hK, hD, hT, hG⟩ := hv
  have hx := B.exec
  have hb := B.bytes
  have hr := B.returns
  have hts := atoms_spec (ws := wsX0_oddsOfAll) B.pre
  have hown : s.vm.findClass RX0 = some m.cls := findClass_of_methodNamed B.named
  have hlocks := B.notSynchronized
  have hS : va_S A s.heap s.heap [] := va_S.rf
  have hl := lv_entry ([.ref (ad a0)]) (n := 4) (Nat.le_of_ble_eq_true rfl)
  rw [lg_entry_eq]
  generalize (lg_sl ([.ref (ad a0)]) ++ List.replicate (4 - (lg_sl ([.ref (ad a0)])).length) Slot.unset).toArray = ls at hl ⊢
  have hl : lv_has ls 4 [(0, .ref (ad a0))] := hl
  unfold f_X0_oddsOfAll at h
  refine lv_lconst (v := 0) hx hb dX0_oddsOfAll_0 rfl ?_
  refine lv_lstore_n (lv' := [(1, .long 0), (0, .ref (ad a0))]) hx hb dX0_oddsOfAll_1 rfl hl (by decide) rfl (fun ls hl => ?_)
  refine lv_iconst (v := 0) hx hb dX0_oddsOfAll_2 rfl ?_
  refine lv_istore_n (lv' := [(3, .int 0), (1, .long 0), (0, .ref (ad a0))]) hx hb dX0_oddsOfAll_3 rfl hl (by decide) rfl (fun ls hl => ?_)
  have L1 : ∀ n1 : Nat, ∀ (y1_0 : Nat) (y1_1 : Int64) (y1_3 : Int32) (ky1_0 : ok g y1_0 0 0) (H : Heap) (locs : List Loc), f_X0_oddsOfAll_L4 n1 M y1_0 y1_1 y1_3 = some Z → va_P D vwCl (wd ad cy g M) H → va_D A (wd ad cy g M) → WT g M → va_S A s.heap H locs → ∀ (ls : Array Slot), lv_has ls 4 [(0, .ref (ad y1_0)), (1, .long y1_1), (3, .int y1_3)] → W p l e ((headSpec wsX0_oddsOfAll ({ frames := 5, cells := 0, slots := 0, locals := 118 })).room) s m (([.ref (ad a0)] : List Value).toArray) below meth c H locs 0 0 (MQ below (va_Ql (fun r u => r = Z ∧ u = M) (Wd D ad cy A g q) A) ([.ref (ad a0)]).toArray s 0 0 A) (F0 m 4 ls []) := by
    intro n1
    induction n1 with
    | zero => intro y1_0 y1_1 y1_3 ky1_0 H locs h; exact absurd h (by simp [f_X0_oddsOfAll_L4])
    | succ n1 ih1 =>
      intro y1_0 y1_1 y1_3 ky1_0 H locs h hP hD hT hS ls hl
      rw [f_X0_oddsOfAll_L4] at h
      refine lv_iload_n hx hb dX0_oddsOfAll_4 rfl (lv_at hl 2 rfl) ?_
      refine lv_aload_n hx hb dX0_oddsOfAll_5 rfl (lv_at hl 0 rfl) ?_
      refine lv_iconst (v := 0) hx hb dX0_oddsOfAll_6 rfl ?_
      obtain ⟨z2, h2, h⟩ := ob_some h
      refine k_i (va_runV (As := [.int 0]) (rest := [.int y1_3]) ⟨hx, hb, hml, hown, hts⟩ (c_X0_count (l := l) M y1_0 0 ky1_0 h2) (cwV 1 hts gX0_oddsOfAll_X0_count rfl rfl rfl hdV_X0_count ⟨Nat.le_of_ble_eq_true rfl, Nat.le_of_ble_eq_true rfl⟩) (pV (T := TX0) hP hK hD hT hG hS ky1_0 (by decide) rfl) rfl rfl hl.1 rfl (lv_room (Nat.le_of_ble_eq_true rfl)) dX0_oddsOfAll_7 ⟨Nat.zero_le _, Nat.zero_le _⟩) hS (fun H locs hP hD hT hS => ?_)
      refine lv_icmp_ge (tgt := 28) hx hb dX0_oddsOfAll_10 rfl (fun c3 => ?_) (fun c3 => ?_)
      · replace h := ite_t c3 h
        refine lv_lload_n hx hb dX0_oddsOfAll_28 rfl (lv_at hl 1 rfl) ?_
        exact r_lret hx hb hr hlocks hP hK hD hT hG hS (Option.some.inj h) rfl dX0_oddsOfAll_29
      · replace h := ite_f c3 h
        refine lv_lload_n hx hb dX0_oddsOfAll_13 rfl (lv_at hl 1 rfl) ?_
        refine lv_aload_n hx hb dX0_oddsOfAll_14 rfl (lv_at hl 0 rfl) ?_
        refine lv_iload_n hx hb dX0_oddsOfAll_15 rfl (lv_at hl 2 rfl) ?_
        refine lv_iconst (v := (-1)) hx hb dX0_oddsOfAll_16 rfl ?_
        obtain ⟨z4, h4, h⟩ := ob_some h
        refine k_l (va_runV (As := [.int y1_3, .int (-1)]) (rest := [.long y1_1]) ⟨hx, hb, hml, hown, hts⟩ (c_X0_oddsOf (l := l) M y1_0 y1_3 (-1) ky1_0 h4) (cwV 2 hts gX0_oddsOfAll_X0_oddsOf rfl rfl rfl hdV_X0_oddsOf ⟨Nat.le_of_ble_eq_true rfl, Nat.le_of_ble_eq_true rfl⟩) (pV (T := TX0) hP hK hD hT hG hS ky1_0 (by decide) rfl) rfl rfl hl.1 rfl (lv_room (Nat.le_of_ble_eq_true rfl)) dX0_oddsOfAll_17 ⟨Nat.zero_le _, Nat.zero_le _⟩) hS (fun H locs hP hD hT hS => ?_)
        refine lv_ladd hx hb dX0_oddsOfAll_20 ?_
        refine lv_lstore_n (lv' := [(1, .long (y1_1 + z4)), (0, .ref (ad y1_0)), (3, .int y1_3)]) hx hb dX0_oddsOfAll_21 rfl hl (by decide) rfl (fun ls hl => ?_)
        refine lv_iinc (v := y1_3 + 1) (lv' := [(3, .int (y1_3 + 1)), (1, .long (y1_1 + z4)), (0, .ref (ad y1_0))]) hx hb dX0_oddsOfAll_22 hl (k := 2) rfl rfl (by decide) rfl (fun ls hl => ?_)
        refine lv_goto (tgt := 4) hx hb dX0_oddsOfAll_25 rfl ?_
        exact ih1 y1_0 (y1_1 + z4) (y1_3 + 1) ky1_0 _ _ h hP hD hT hS ls (lv_sub hl [2, 1, 0] rfl)
  exact L1 FU a0 0 0 k0 _ _ h hP hD hT hS ls (lv_sub hl [2, 1, 0] rfl)
set_option maxHeartbeats 4000000 in
set_option maxRecDepth 100000 in
theorem c_X0_likeliestWay {l : Launch} {D : va_G} {ad : Nat → Nat} {cy : Nat → ClassId} {A : Nat → Prop} {g : CG} {q : SE} (M : MM) (a0 : Nat) (x1 : Int32) (k0 : ok g a0 0 0) {Z : Int32} (h : f_X0_likeliestWay M a0 x1 = some Z) : Met l yX0_likeliestWay wsX0_likeliestWay ({ frames := 5, cells := 0, slots := 0, locals := 118 }) (va_Pc [.ref (ad a0), .int x1] (Wd D ad cy A g q M)) (va_Qi (fun r u => r = Z ∧ u = M) (Wd D ad cy A g q) A) 0 0 A := by
  refine Met.ofW (cc := cX0_likeliestWay) (maxL := 8) (ret := (some .int)) (by decide) rfl ?_
  intro p e s m args below meth c s₁ B hml hv
  obtain ⟨rfl, hP, hK, hD, hT, hG⟩ := hv
  have hx := B.exec
  have hb := B.bytes
  have hr := B.returns
  have hts := atoms_spec (ws := wsX0_likeliestWay) B.pre
  have hown : s.vm.findClass RX0 = some m.cls := findClass_of_methodNamed B.named
  have hlocks := B.notSynchronized
  have hS : va_S A s.heap s.heap [] := va_S.rf
  have hl := lv_entry ([.ref (ad a0), .int x1]) (n := 8) (Nat.le_of_ble_eq_true rfl)
  rw [lg_entry_eq]
  generalize (lg_sl ([.ref (ad a0), .int x1]) ++ List.replicate (8 - (lg_sl ([.ref (ad a0), .int x1])).length) Slot.unset).toArray = ls at hl ⊢
  have hl : lv_has ls 8 [(0, .ref (ad a0)), (1, .int x1)] := hl
  unfold f_X0_likeliestWay at h
  refine lv_iconst (v := (-1)) hx hb dX0_likeliestWay_0 rfl ?_
  refine lv_istore_n (lv' := [(2, .int (-1)), (0, .ref (ad a0)), (1, .int x1)]) hx hb dX0_likeliestWay_1 rfl hl (by decide) rfl (fun ls hl => ?_)
  refine lv_lconst (v := 0) hx hb dX0_likeliestWay_2 rfl ?_
  refine lv_lstore_n (lv' := [(3, .long 0), (2, .int (-1)), (0, .ref (ad a0)), (1, .int x1)]) hx hb dX0_likeliestWay_3 rfl hl (by decide) rfl (fun ls hl => ?_)
  refine lv_iconst (v := 0) hx hb dX0_likeliestWay_4 rfl ?_
  refine lv_istore (lv' := [(5, .int 0), (3, .long 0), (2, .int (-1)), (0, .ref (ad a0)), (1, .int x1)]) hx hb dX0_likeliestWay_5 hl (by decide) rfl (fun ls hl => ?_)
  have L1 : ∀ n1 : Nat, ∀ (y1_0 : Nat) (y1_1 : Int32) (y1_2 : Int32) (y1_3 : Int64) (y1_5 : Int32) (ky1_0 : ok g y1_0 0 0) (H : Heap) (locs : List Loc), f_X0_likeliestWay_L7 n1 M y1_0 y1_1 y1_2 y1_3 y1_5 = some Z → va_P D vwCl (wd ad cy g M) H → va_D A (wd ad cy g M) → WT g M → va_S A s.heap H locs → ∀ (ls : Array Slot), lv_has ls 8 [(0, .ref (ad y1_0)), (1, .int y1_1), (2, .int y1_2), (3, .long y1_3), (5, .int y1_5)] → W p l e ((headSpec wsX0_likeliestWay ({ frames := 5, cells := 0, slots := 0, locals := 118 })).room) s m (([.ref (ad a0), .int x1] : List Value).toArray) below meth c H locs 0 0 (MQ below (va_Qi (fun r u => r = Z ∧ u = M) (Wd D ad cy A g q) A) ([.ref (ad a0), .int x1]).toArray s 0 0 A) (F0 m 7 ls []) := by
    intro n1
    induction n1 with
    | zero => intro y1_0 y1_1 y1_2 y1_3 y1_5 ky1_0 H locs h; exact absurd h (by simp [f_X0_likeliestWay_L7])
    | succ n1 ih1 =>
      intro y1_0 y1_1 y1_2 y1_3 y1_5 ky1_0 H locs h hP hD hT hS ls hl
      rw [f_X0_likeliestWay_L7] at h
      refine lv_iload hx hb dX0_likeliestWay_7 (lv_at hl 4 rfl) ?_
      refine lv_aload_n hx hb dX0_likeliestWay_9 rfl (lv_at hl 0 rfl) ?_
      refine lv_iconst (v := 0) hx hb dX0_likeliestWay_10 rfl ?_
      obtain ⟨z2, h2, h⟩ := ob_some h
      refine k_i (va_runV (As := [.int 0]) (rest := [.int y1_5]) ⟨hx, hb, hml, hown, hts⟩ (c_X0_count (l := l) M y1_0 0 ky1_0 h2) (cwV 1 hts gX0_likeliestWay_X0_count rfl rfl rfl hdV_X0_count ⟨Nat.le_of_ble_eq_true rfl, Nat.le_of_ble_eq_true rfl⟩) (pV (T := TX0) hP hK hD hT hG hS ky1_0 (by decide) rfl) rfl rfl hl.1 rfl (lv_room (Nat.le_of_ble_eq_true rfl)) dX0_likeliestWay_11 ⟨Nat.zero_le _, Nat.zero_le _⟩) hS (fun H locs hP hD hT hS => ?_)
      refine lv_icmp_ge (tgt := 50) hx hb dX0_likeliestWay_14 rfl (fun c3 => ?_) (fun c3 => ?_)
      · replace h := ite_t c3 h
        refine lv_iload_n hx hb dX0_likeliestWay_50 rfl (lv_at hl 2 rfl) ?_
        exact r_iret hx hb hr hlocks hP hK hD hT hG hS (Option.some.inj h) rfl dX0_likeliestWay_51
      · replace h := ite_f c3 h
        refine lv_aload_n hx hb dX0_likeliestWay_17 rfl (lv_at hl 0 rfl) ?_
        refine lv_iload hx hb dX0_likeliestWay_18 (lv_at hl 4 rfl) ?_
        refine lv_iload_n hx hb dX0_likeliestWay_20 rfl (lv_at hl 1 rfl) ?_
        obtain ⟨z4, h4, h⟩ := ob_some h
        refine k_l (va_runV (As := [.int y1_5, .int y1_1]) (rest := []) ⟨hx, hb, hml, hown, hts⟩ (c_X0_oddsOf (l := l) M y1_0 y1_5 y1_1 ky1_0 h4) (cwV 2 hts gX0_likeliestWay_X0_oddsOf rfl rfl rfl hdV_X0_oddsOf ⟨Nat.le_of_ble_eq_true rfl, Nat.le_of_ble_eq_true rfl⟩) (pV (T := TX0) hP hK hD hT hG hS ky1_0 (by decide) rfl) rfl rfl hl.1 rfl (lv_room (Nat.le_of_ble_eq_true rfl)) dX0_likeliestWay_21 ⟨Nat.zero_le _, Nat.zero_le _⟩) hS (fun H locs hP hD hT hS => ?_)
        refine lv_lstore (lv' := [(6, .long z4), (0, .ref (ad y1_0)), (1, .int y1_1), (2, .int y1_2), (3, .long y1_3), (5, .int y1_5)]) hx hb dX0_likeliestWay_24 hl (by decide) rfl (fun ls hl => ?_)
        refine lv_iload_n hx hb dX0_likeliestWay_26 rfl (lv_at hl 3 rfl) ?_
        refine lv_iconst (v := (-1)) hx hb dX0_likeliestWay_27 rfl ?_
        refine lv_icmp_eq (tgt := 38) hx hb dX0_likeliestWay_28 rfl (fun c5 => ?_) (fun c5 => ?_)
        · replace h := ite_t c5 h
          refine lv_iload hx hb dX0_likeliestWay_38 (lv_at hl 5 rfl) ?_
          refine lv_istore_n (lv' := [(2, .int y1_5), (6, .long z4), (0, .ref (ad y1_0)), (1, .int y1_1), (3, .long y1_3), (5, .int y1_5)]) hx hb dX0_likeliestWay_40 rfl hl (by decide) rfl (fun ls hl => ?_)
          refine lv_lload hx hb dX0_likeliestWay_41 (lv_at hl 1 rfl) ?_
          refine lv_lstore_n (lv' := [(3, .long z4), (2, .int y1_5), (6, .long z4), (0, .ref (ad y1_0)), (1, .int y1_1), (5, .int y1_5)]) hx hb dX0_likeliestWay_43 rfl hl (by decide) rfl (fun ls hl => ?_)
          refine lv_iinc (v := y1_5 + 1) (lv' := [(5, .int (y1_5 + 1)), (3, .long z4), (2, .int y1_5), (6, .long z4), (0, .ref (ad y1_0)), (1, .int y1_1)]) hx hb dX0_likeliestWay_44 hl (k := 5) rfl rfl (by decide) rfl (fun ls hl => ?_)
          refine lv_goto (tgt := 7) hx hb dX0_likeliestWay_47 rfl ?_
          exact ih1 y1_0 y1_1 y1_5 z4 (y1_5 + 1) ky1_0 _ _ h hP hD hT hS ls (lv_sub hl [4, 5, 2, 1, 0] rfl)
        · replace h := ite_f c5 h
          refine lv_lload hx hb dX0_likeliestWay_31 (lv_at hl 0 rfl) ?_
          refine lv_lload_n hx hb dX0_likeliestWay_33 rfl (lv_at hl 4 rfl) ?_
          refine W.lcmp hx hb dX0_likeliestWay_34 ?_
          refine lv_if_le (tgt := 44) hx hb dX0_likeliestWay_35 rfl (fun c6 => ?_) (fun c6 => ?_)
          · replace h := ite_t c6 h
            refine lv_iinc (v := y1_5 + 1) (lv' := [(5, .int (y1_5 + 1)), (6, .long z4), (0, .ref (ad y1_0)), (1, .int y1_1), (2, .int y1_2), (3, .long y1_3)]) hx hb dX0_likeliestWay_44 hl (k := 5) rfl rfl (by decide) rfl (fun ls hl => ?_)
            refine lv_goto (tgt := 7) hx hb dX0_likeliestWay_47 rfl ?_
            exact ih1 y1_0 y1_1 y1_2 y1_3 (y1_5 + 1) ky1_0 _ _ h hP hD hT hS ls (lv_sub hl [2, 3, 4, 5, 0] rfl)
          · replace h := ite_f c6 h
            refine lv_iload hx hb dX0_likeliestWay_38 (lv_at hl 5 rfl) ?_
            refine lv_istore_n (lv' := [(2, .int y1_5), (6, .long z4), (0, .ref (ad y1_0)), (1, .int y1_1), (3, .long y1_3), (5, .int y1_5)]) hx hb dX0_likeliestWay_40 rfl hl (by decide) rfl (fun ls hl => ?_)
            refine lv_lload hx hb dX0_likeliestWay_41 (lv_at hl 1 rfl) ?_
            refine lv_lstore_n (lv' := [(3, .long z4), (2, .int y1_5), (6, .long z4), (0, .ref (ad y1_0)), (1, .int y1_1), (5, .int y1_5)]) hx hb dX0_likeliestWay_43 rfl hl (by decide) rfl (fun ls hl => ?_)
            refine lv_iinc (v := y1_5 + 1) (lv' := [(5, .int (y1_5 + 1)), (3, .long z4), (2, .int y1_5), (6, .long z4), (0, .ref (ad y1_0)), (1, .int y1_1)]) hx hb dX0_likeliestWay_44 hl (k := 5) rfl rfl (by decide) rfl (fun ls hl => ?_)
            refine lv_goto (tgt := 7) hx hb dX0_likeliestWay_47 rfl ?_
            exact ih1 y1_0 y1_1 y1_5 z4 (y1_5 + 1) ky1_0 _ _ h hP hD hT hS ls (lv_sub hl [4, 5, 2, 1, 0] rfl)
  exact L1 FU a0 x1 (-1) 0 0 k0 _ _ h hP hD hT hS ls (lv_sub hl [3, 4, 2, 1, 0] rfl)
set_option maxHeartbeats 4000000 in
set_option maxRecDepth 100000 in
theorem c_X0_decidingStatue {l : Launch} {D : va_G} {ad : Nat → Nat} {cy : Nat → ClassId} {A : Nat → Prop} {g : CG} {q : SE} (M : MM) (a0 : Nat) (k0 : ok g a0 0 0) {Z : Int32} (h : f_X0_decidingStatue M a0 = some Z) : Met l yX0_decidingStatue wsX0_decidingStatue ({ frames := 6, cells := 0, slots := 0, locals := 145 }) (va_Pc [.ref (ad a0)] (Wd D ad cy A g q M)) (va_Qi (fun r u => r = Z ∧ u = M) (Wd D ad cy A g q) A) 0 0 A := by
  refine Met.ofW (cc := cX0_decidingStatue) (maxL := 4) (ret := (some .int)) (by decide) rfl ?_
  intro p e s m args below meth c s₁ B hml hv
  obtain ⟨rfl, hP, hK, hD, hT, hG⟩ := hv
  have hx := B.exec
  have hb := B.bytes
  have hr := B.returns
  have hts := atoms_spec (ws := wsX0_decidingStatue) B.pre
  have hown : s.vm.findClass RX0 = some m.cls := findClass_of_methodNamed B.named
  have hlocks := B.notSynchronized
  have hS : va_S A s.heap s.heap [] := va_S.rf
  have hl := lv_entry ([.ref (ad a0)]) (n := 4) (Nat.le_of_ble_eq_true rfl)
  rw [lg_entry_eq]
  generalize (lg_sl ([.ref (ad a0)]) ++ List.replicate (4 - (lg_sl ([.ref (ad a0)])).length) Slot.unset).toArray = ls at hl ⊢
  have hl : lv_has ls 4 [(0, .ref (ad a0))] := hl
  unfold f_X0_decidingStatue at h
  refine lv_aload_n hx hb dX0_decidingStatue_0 rfl (lv_at hl 0 rfl) ?_
  refine lv_iconst (v := (-1)) hx hb dX0_decidingStatue_1 rfl ?_
  obtain ⟨z1, h1, h⟩ := ob_some h
  refine k_i (va_runV (As := [.int (-1)]) (rest := []) ⟨hx, hb, hml, hown, hts⟩ (c_X0_likeliestWay (l := l) M a0 (-1) k0 h1) (cwV 1 hts gX0_decidingStatue_X0_likeliestWay rfl rfl rfl hdV_X0_likeliestWay ⟨Nat.le_of_ble_eq_true rfl, Nat.le_of_ble_eq_true rfl⟩) (pV (T := TX0) hP hK hD hT hG hS k0 (by decide) rfl) rfl rfl hl.1 rfl (lv_room (Nat.le_of_ble_eq_true rfl)) dX0_decidingStatue_2 ⟨Nat.zero_le _, Nat.zero_le _⟩) hS (fun H locs hP hD hT hS => ?_)
  refine lv_istore_n (lv' := [(1, .int z1), (0, .ref (ad a0))]) hx hb dX0_decidingStatue_5 rfl hl (by decide) rfl (fun ls hl => ?_)
  refine lv_iconst (v := 0) hx hb dX0_decidingStatue_6 rfl ?_
  refine lv_istore_n (lv' := [(2, .int 0), (1, .int z1), (0, .ref (ad a0))]) hx hb dX0_decidingStatue_7 rfl hl (by decide) rfl (fun ls hl => ?_)
  have L2 : ∀ n2 : Nat, ∀ (y2_0 : Nat) (y2_1 : Int32) (y2_2 : Int32) (ky2_0 : ok g y2_0 0 0) (H : Heap) (locs : List Loc), f_X0_decidingStatue_L8 n2 M y2_0 y2_1 y2_2 = some Z → va_P D vwCl (wd ad cy g M) H → va_D A (wd ad cy g M) → WT g M → va_S A s.heap H locs → ∀ (ls : Array Slot), lv_has ls 4 [(0, .ref (ad y2_0)), (1, .int y2_1), (2, .int y2_2)] → W p l e ((headSpec wsX0_decidingStatue ({ frames := 6, cells := 0, slots := 0, locals := 145 })).room) s m (([.ref (ad a0)] : List Value).toArray) below meth c H locs 0 0 (MQ below (va_Qi (fun r u => r = Z ∧ u = M) (Wd D ad cy A g q) A) ([.ref (ad a0)]).toArray s 0 0 A) (F0 m 8 ls []) := by
    intro n2
    induction n2 with
    | zero => intro y2_0 y2_1 y2_2 ky2_0 H locs h; exact absurd h (by simp [f_X0_decidingStatue_L8])
    | succ n2 ih2 =>
      intro y2_0 y2_1 y2_2 ky2_0 H locs h hP hD hT hS ls hl
      rw [f_X0_decidingStatue_L8] at h
      refine lv_iload_n hx hb dX0_decidingStatue_8 rfl (lv_at hl 2 rfl) ?_
      refine lv_aload_n hx hb dX0_decidingStatue_9 rfl (lv_at hl 0 rfl) ?_
      refine lv_iconst (v := 2) hx hb dX0_decidingStatue_10 rfl ?_
      obtain ⟨z3, h3, h⟩ := ob_some h
      refine k_i (va_runV (As := [.int 2]) (rest := [.int y2_2]) ⟨hx, hb, hml, hown, hts⟩ (c_X0_count (l := l) M y2_0 2 ky2_0 h3) (cwV 1 hts gX0_decidingStatue_X0_count rfl rfl rfl hdV_X0_count ⟨Nat.le_of_ble_eq_true rfl, Nat.le_of_ble_eq_true rfl⟩) (pV (T := TX0) hP hK hD hT hG hS ky2_0 (by decide) rfl) rfl rfl hl.1 rfl (lv_room (Nat.le_of_ble_eq_true rfl)) dX0_decidingStatue_11 ⟨Nat.zero_le _, Nat.zero_le _⟩) hS (fun H locs hP hD hT hS => ?_)
      refine lv_icmp_ge (tgt := 51) hx hb dX0_decidingStatue_14 rfl (fun c4 => ?_) (fun c4 => ?_)
      · replace h := ite_t c4 h
        refine lv_bipush (v := (-2)) hx hb dX0_decidingStatue_51 rfl ?_
        exact r_iret hx hb hr hlocks hP hK hD hT hG hS (Option.some.inj h) rfl dX0_decidingStatue_53
      · replace h := ite_f c4 h
        refine lv_aload_n hx hb dX0_decidingStatue_17 rfl (lv_at hl 0 rfl) ?_
        refine lv_iload_n hx hb dX0_decidingStatue_18 rfl (lv_at hl 2 rfl) ?_
        obtain ⟨z5, h5, h⟩ := ob_some h
        refine k_q (va_runV (As := [.int y2_2]) (rest := []) ⟨hx, hb, hml, hown, hts⟩ (c_X0_statueAt (l := l) M y2_0 y2_2 ky2_0 h5) (cwV 1 hts gX0_decidingStatue_X0_statueAt rfl rfl rfl hdV_X0_statueAt ⟨Nat.le_of_ble_eq_true rfl, Nat.le_of_ble_eq_true rfl⟩) (pV (T := TX0) hP hK hD hT hG hS ky2_0 (by decide) rfl) rfl rfl hl.1 rfl (lv_room (Nat.le_of_ble_eq_true rfl)) dX0_decidingStatue_19 ⟨Nat.zero_le _, Nat.zero_le _⟩) hS (fun H locs hq5 hP hD hT hS => ?_)
        rcases hN5 : z5 with _ | b5
        · replace h := oc_n hN5 h
          show W _ _ _ _ _ _ _ _ _ _ _ _ _ _ _ (F0 _ _ _ (.null :: []))
          refine lv_astore_nN (lv' := [(3, .null), (0, .ref (ad y2_0)), (1, .int y2_1), (2, .int y2_2)]) hx hb dX0_decidingStatue_22 rfl hl (by decide) rfl (fun ls hl => ?_)
          refine lv_aload_nN hx hb dX0_decidingStatue_23 rfl (lv_at hl 0 rfl) ?_
          refine lv_ifnullN (tgt := 45) hx hb dX0_decidingStatue_24 rfl ?_
          refine lv_iinc (v := y2_2 + 1) (lv' := [(2, .int (y2_2 + 1)), (3, .null), (0, .ref (ad y2_0)), (1, .int y2_1)]) hx hb dX0_decidingStatue_45 hl (k := 3) rfl rfl (by decide) rfl (fun ls hl => ?_)
          refine lv_goto (tgt := 8) hx hb dX0_decidingStatue_48 rfl ?_
          exact ih2 y2_0 y2_1 (y2_2 + 1) ky2_0 _ _ h hP hD hT hS ls (lv_sub hl [2, 3, 0] rfl)
        · replace h := oc_s hN5 h
          have kb5 := hq5 _ hN5
          show W _ _ _ _ _ _ _ _ _ _ _ _ _ _ _ (F0 _ _ _ (.ref (ad b5) :: []))
          refine lv_astore_n (lv' := [(3, .ref (ad b5)), (0, .ref (ad y2_0)), (1, .int y2_1), (2, .int y2_2)]) hx hb dX0_decidingStatue_22 rfl hl (by decide) rfl (fun ls hl => ?_)
          refine lv_aload_n hx hb dX0_decidingStatue_23 rfl (lv_at hl 0 rfl) ?_
          refine lv_ifnull hx hb dX0_decidingStatue_24 ?_
          refine lv_aload_n hx hb dX0_decidingStatue_27 rfl (lv_at hl 0 rfl) ?_
          obtain ⟨z6, h6, h⟩ := ob_some h
          refine k_z (va_runV (As := []) (rest := []) ⟨hx, hb, hml, hown, hts⟩ (c_X5_isLying (l := l) M b5 kb5 h6) (cwV 0 hts gX0_decidingStatue_X5_isLying rfl rfl rfl hdV_X5_isLying ⟨Nat.le_of_ble_eq_true rfl, Nat.le_of_ble_eq_true rfl⟩) (pV (T := TX5) hP hK hD hT hG hS kb5 (by decide) rfl) rfl rfl hl.1 rfl (lv_room (Nat.le_of_ble_eq_true rfl)) dX0_decidingStatue_28 ⟨Nat.zero_le _, Nat.zero_le _⟩) hS (fun H locs hz6 hP hD hT hS => ?_)
          refine lv_if_eq (tgt := 45) hx hb dX0_decidingStatue_31 rfl (fun c7 => ?_) (fun c7 => ?_)
          · replace h := ite_t c7 h
            refine lv_iinc (v := y2_2 + 1) (lv' := [(2, .int (y2_2 + 1)), (3, .ref (ad b5)), (0, .ref (ad y2_0)), (1, .int y2_1)]) hx hb dX0_decidingStatue_45 hl (k := 3) rfl rfl (by decide) rfl (fun ls hl => ?_)
            refine lv_goto (tgt := 8) hx hb dX0_decidingStatue_48 rfl ?_
            exact ih2 y2_0 y2_1 (y2_2 + 1) ky2_0 _ _ h hP hD hT hS ls (lv_sub hl [2, 3, 0] rfl)
          · replace h := ite_f c7 h
            refine lv_aload_n hx hb dX0_decidingStatue_34 rfl (lv_at hl 1 rfl) ?_
            refine lv_iload_n hx hb dX0_decidingStatue_35 rfl (lv_at hl 3 rfl) ?_
            obtain ⟨z8, h8, h⟩ := ob_some h
            refine k_i (va_runV (As := [.int y2_2]) (rest := []) ⟨hx, hb, hml, hown, hts⟩ (c_X0_likeliestWay (l := l) M y2_0 y2_2 ky2_0 h8) (cwV 1 hts gX0_decidingStatue_X0_likeliestWay rfl rfl rfl hdV_X0_likeliestWay ⟨Nat.le_of_ble_eq_true rfl, Nat.le_of_ble_eq_true rfl⟩) (pV (T := TX0) hP hK hD hT hG hS ky2_0 (by decide) rfl) rfl rfl hl.1 rfl (lv_room (Nat.le_of_ble_eq_true rfl)) dX0_decidingStatue_36 ⟨Nat.zero_le _, Nat.zero_le _⟩) hS (fun H locs hP hD hT hS => ?_)
            refine lv_iload_n hx hb dX0_decidingStatue_39 rfl (lv_at hl 2 rfl) ?_
            refine lv_icmp_eq (tgt := 45) hx hb dX0_decidingStatue_40 rfl (fun c9 => ?_) (fun c9 => ?_)
            · replace h := ite_t c9 h
              refine lv_iinc (v := y2_2 + 1) (lv' := [(2, .int (y2_2 + 1)), (3, .ref (ad b5)), (0, .ref (ad y2_0)), (1, .int y2_1)]) hx hb dX0_decidingStatue_45 hl (k := 3) rfl rfl (by decide) rfl (fun ls hl => ?_)
              refine lv_goto (tgt := 8) hx hb dX0_decidingStatue_48 rfl ?_
              exact ih2 y2_0 y2_1 (y2_2 + 1) ky2_0 _ _ h hP hD hT hS ls (lv_sub hl [2, 3, 0] rfl)
            · replace h := ite_f c9 h
              refine lv_iload_n hx hb dX0_decidingStatue_43 rfl (lv_at hl 3 rfl) ?_
              exact r_iret hx hb hr hlocks hP hK hD hT hG hS (Option.some.inj h) rfl dX0_decidingStatue_44
  exact L2 FU a0 z1 0 k0 _ _ h hP hD hT hS ls (lv_sub hl [2, 1, 0] rfl)
set_option maxHeartbeats 4000000 in
set_option maxRecDepth 100000 in
theorem c_X0_oddsThatCarry {l : Launch} {D : va_G} {ad : Nat → Nat} {cy : Nat → ClassId} {A : Nat → Prop} {g : CG} {q : SE} (M : MM) (a0 : Nat) (r1 : Option Nat) (k0 : ok g a0 0 0) (k1 : ∀ b, r1 = some b → ok g b 5 0) {Z : Int64} (h : f_X0_oddsThatCarry M a0 r1 = some Z) : Met l yX0_oddsThatCarry wsX0_oddsThatCarry ({ frames := 5, cells := 0, slots := 0, locals := 118 }) (va_Pc [.ref (ad a0), va_rf (r1.map ad)] (Wd D ad cy A g q M)) (va_Ql (fun r u => r = Z ∧ u = M) (Wd D ad cy A g q) A) 0 0 A := by
  refine Met.ofW (cc := cX0_oddsThatCarry) (maxL := 6) (ret := (some .long)) (by decide) rfl ?_
  intro p e s m args below meth c s₁ B hml hv
  obtain ⟨rfl, hP, hK, hD, hT, hG⟩ := hv
  have hx := B.exec
  have hb := B.bytes
  have hr := B.returns
  have hts := atoms_spec (ws := wsX0_oddsThatCarry) B.pre
  have hown : s.vm.findClass RX0 = some m.cls := findClass_of_methodNamed B.named
  have hlocks := B.notSynchronized
  have in5 : ∀ w ∈ u_ws RX5 TX5 8, w ∈ wsX0_oddsThatCarry := fun w h => List.mem_cons_of_mem _ (List.mem_append_left _ (List.mem_append_left _ (List.mem_append_left _ (List.mem_append_left _ (List.mem_append_right _ h)))))
  have hS : va_S A s.heap s.heap [] := va_S.rf
  unfold f_X0_oddsThatCarry at h
  rcases r1 with _ | b1
  · skip
    have hl := lv_entry ([.ref (ad a0), va_rf ((none : Option Nat).map ad)]) (n := 6) (Nat.le_of_ble_eq_true rfl)
    rw [lg_entry_eq]
    generalize (lg_sl ([.ref (ad a0), va_rf ((none : Option Nat).map ad)]) ++ List.replicate (6 - (lg_sl ([.ref (ad a0), va_rf ((none : Option Nat).map ad)])).length) Slot.unset).toArray = ls at hl ⊢
    have hl : lv_has ls 6 [(0, .ref (ad a0)), (1, .null)] := hl
    replace h := oc_n rfl h
    refine lv_lconst (v := 0) hx hb dX0_oddsThatCarry_0 rfl ?_
    refine lv_lstore_n (lv' := [(2, .long 0), (0, .ref (ad a0)), (1, .null)]) hx hb dX0_oddsThatCarry_1 rfl hl (by decide) rfl (fun ls hl => ?_)
    refine lv_iconst (v := 0) hx hb dX0_oddsThatCarry_2 rfl ?_
    refine lv_istore (lv' := [(4, .int 0), (2, .long 0), (0, .ref (ad a0)), (1, .null)]) hx hb dX0_oddsThatCarry_3 hl (by decide) rfl (fun ls hl => ?_)
    have L1 : ∀ n1 : Nat, ∀ (y1_0 : Nat) (y1_1 : Option Nat) (y1_2 : Int64) (y1_4 : Int32) (ky1_0 : ok g y1_0 0 0) (ky1_1 : ∀ b, y1_1 = some b → ok g b 5 0) (H : Heap) (locs : List Loc), f_X0_oddsThatCarry_L5 n1 M y1_0 y1_1 y1_2 y1_4 = some Z → va_P D vwCl (wd ad cy g M) H → va_D A (wd ad cy g M) → WT g M → va_S A s.heap H locs → ∀ (ls : Array Slot), lv_has ls 6 [(0, .ref (ad y1_0)), (1, va_rf (y1_1.map ad)), (2, .long y1_2), (4, .int y1_4)] → W p l e ((headSpec wsX0_oddsThatCarry ({ frames := 5, cells := 0, slots := 0, locals := 118 })).room) s m (([.ref (ad a0), va_rf ((none : Option Nat).map ad)] : List Value).toArray) below meth c H locs 0 0 (MQ below (va_Ql (fun r u => r = Z ∧ u = M) (Wd D ad cy A g q) A) ([.ref (ad a0), va_rf ((none : Option Nat).map ad)] : List Value).toArray s 0 0 A) (F0 m 5 ls []) := by
      intro n1
      induction n1 with
      | zero => intro y1_0 y1_1 y1_2 y1_4 ky1_0 ky1_1 H locs h; exact absurd h (by simp [f_X0_oddsThatCarry_L5])
      | succ n1 ih1 =>
        intro y1_0 y1_1 y1_2 y1_4 ky1_0 ky1_1 H locs h hP hD hT hS ls hl
        rw [f_X0_oddsThatCarry_L5] at h
        refine lv_iload hx hb dX0_oddsThatCarry_5 (lv_at hl 3 rfl) ?_
        refine lv_aload_n hx hb dX0_oddsThatCarry_7 rfl (lv_at hl 0 rfl) ?_
        refine lv_iconst (v := 0) hx hb dX0_oddsThatCarry_8 rfl ?_
        obtain ⟨z2, h2, h⟩ := ob_some h
        refine k_i (va_runV (As := [.int 0]) (rest := [.int y1_4]) ⟨hx, hb, hml, hown, hts⟩ (c_X0_count (l := l) M y1_0 0 ky1_0 h2) (cwV 1 hts gX0_oddsThatCarry_X0_count rfl rfl rfl hdV_X0_count ⟨Nat.le_of_ble_eq_true rfl, Nat.le_of_ble_eq_true rfl⟩) (pV (T := TX0) hP hK hD hT hG hS ky1_0 (by decide) rfl) rfl rfl hl.1 rfl (lv_room (Nat.le_of_ble_eq_true rfl)) dX0_oddsThatCarry_9 ⟨Nat.zero_le _, Nat.zero_le _⟩) hS (fun H locs hP hD hT hS => ?_)
        refine lv_icmp_ge (tgt := 61) hx hb dX0_oddsThatCarry_12 rfl (fun c3 => ?_) (fun c3 => ?_)
        · replace h := ite_t c3 h
          refine lv_lload_n hx hb dX0_oddsThatCarry_61 rfl (lv_at hl 2 rfl) ?_
          exact r_lret hx hb hr hlocks hP hK hD hT hG hS (Option.some.inj h) rfl dX0_oddsThatCarry_62
        · replace h := ite_f c3 h
          refine lv_aload_n hx hb dX0_oddsThatCarry_15 rfl (lv_at hl 0 rfl) ?_
          refine lv_iload hx hb dX0_oddsThatCarry_16 (lv_at hl 3 rfl) ?_
          obtain ⟨z4, h4, h⟩ := ob_some h
          refine k_q (va_runV (As := [.int y1_4]) (rest := []) ⟨hx, hb, hml, hown, hts⟩ (c_X0_wayAt (l := l) M y1_0 y1_4 ky1_0 h4) (cwV 1 hts gX0_oddsThatCarry_X0_wayAt rfl rfl rfl hdV_X0_wayAt ⟨Nat.le_of_ble_eq_true rfl, Nat.le_of_ble_eq_true rfl⟩) (pV (T := TX0) hP hK hD hT hG hS ky1_0 (by decide) rfl) rfl rfl hl.1 rfl (lv_room (Nat.le_of_ble_eq_true rfl)) dX0_oddsThatCarry_18 ⟨Nat.zero_le _, Nat.zero_le _⟩) hS (fun H locs hq4 hP hD hT hS => ?_)
          rcases hN4 : z4 with _ | b4
          · replace h := oc_n hN4 h
            show W _ _ _ _ _ _ _ _ _ _ _ _ _ _ _ (F0 _ _ _ (.null :: []))
            refine lv_astoreN (lv' := [(5, .null), (0, .ref (ad y1_0)), (1, va_rf (y1_1.map ad)), (2, .long y1_2), (4, .int y1_4)]) hx hb dX0_oddsThatCarry_21 hl (by decide) rfl (fun ls hl => ?_)
            refine lv_aloadN hx hb dX0_oddsThatCarry_23 (lv_at hl 0 rfl) ?_
            refine lv_ifnullN (tgt := 55) hx hb dX0_oddsThatCarry_25 rfl ?_
            refine lv_iinc (v := y1_4 + 1) (lv' := [(4, .int (y1_4 + 1)), (5, .null), (0, .ref (ad y1_0)), (1, va_rf (y1_1.map ad)), (2, .long y1_2)]) hx hb dX0_oddsThatCarry_55 hl (k := 4) rfl rfl (by decide) rfl (fun ls hl => ?_)
            refine lv_goto (tgt := 5) hx hb dX0_oddsThatCarry_58 rfl ?_
            exact ih1 y1_0 y1_1 y1_2 (y1_4 + 1) ky1_0 ky1_1 _ _ h hP hD hT hS ls (lv_sub hl [2, 3, 4, 0] rfl)
          · replace h := oc_s hN4 h
            have kb4 := hq4 _ hN4
            show W _ _ _ _ _ _ _ _ _ _ _ _ _ _ _ (F0 _ _ _ (.ref (ad b4) :: []))
            refine lv_astore (lv' := [(5, .ref (ad b4)), (0, .ref (ad y1_0)), (1, va_rf (y1_1.map ad)), (2, .long y1_2), (4, .int y1_4)]) hx hb dX0_oddsThatCarry_21 hl (by decide) rfl (fun ls hl => ?_)
            refine lv_aload hx hb dX0_oddsThatCarry_23 (lv_at hl 0 rfl) ?_
            refine lv_ifnull hx hb dX0_oddsThatCarry_25 ?_
            rcases hN5 : y1_1 with _ | b5
            · replace h := oc_n hN5 h
              have hl : lv_has ls 6 [(5, .ref (ad b4)), (0, .ref (ad y1_0)), (1, .null), (2, .long y1_2), (4, .int y1_4)] := by rw [hN5] at hl; exact hl
              refine lv_aload_nN hx hb dX0_oddsThatCarry_28 rfl (lv_at hl 2 rfl) ?_
              refine lv_ifnullN (tgt := 55) hx hb dX0_oddsThatCarry_29 rfl ?_
              refine lv_iinc (v := y1_4 + 1) (lv' := [(4, .int (y1_4 + 1)), (5, .ref (ad b4)), (0, .ref (ad y1_0)), (1, .null), (2, .long y1_2)]) hx hb dX0_oddsThatCarry_55 hl (k := 4) rfl rfl (by decide) rfl (fun ls hl => ?_)
              refine lv_goto (tgt := 5) hx hb dX0_oddsThatCarry_58 rfl ?_
              exact ih1 y1_0 none y1_2 (y1_4 + 1) ky1_0 (fun b hb => nomatch hb) _ _ h hP hD hT hS ls (lv_sub hl [2, 3, 4, 0] rfl)
            · replace h := oc_s hN5 h
              have kb5 := ky1_1 _ hN5
              have hl : lv_has ls 6 [(5, .ref (ad b4)), (0, .ref (ad y1_0)), (1, .ref (ad b5)), (2, .long y1_2), (4, .int y1_4)] := by rw [hN5] at hl; exact hl
              refine lv_aload_n hx hb dX0_oddsThatCarry_28 rfl (lv_at hl 2 rfl) ?_
              refine lv_ifnull hx hb dX0_oddsThatCarry_29 ?_
              refine lv_aload hx hb dX0_oddsThatCarry_32 (lv_at hl 0 rfl) ?_
              refine lv_aload_n hx hb dX0_oddsThatCarry_34 rfl (lv_at hl 2 rfl) ?_
              refine lv_aload_n hx hb dX0_oddsThatCarry_35 rfl (lv_at hl 2 rfl) ?_
              refine r_get (T := TX5) (v := .int (gI M b5 7)) hx hb hts in5 hown hK hP kb5 (by decide) rfl 7 (by decide) (hts (.fieldLink RX0 104 "StoneWalk$Stone" "slope" "I") (List.mem_of_getElem? (i := 1) (by decide +kernel))) rfl (t := 0) rfl rfl dX0_oddsThatCarry_36 ?_
              obtain ⟨z6, h6, h⟩ := ob_some h
              refine k_z (va_runV (As := [.ref (ad b5), .int (gI M b5 7)]) (rest := []) ⟨hx, hb, hml, hown, hts⟩ (c_X10_carries (l := l) M b4 b5 (gI M b5 7) kb4 kb5 h6) (cwV 2 hts gX0_oddsThatCarry_X10_carries rfl rfl rfl hdV_X10_carries ⟨Nat.le_of_ble_eq_true rfl, Nat.le_of_ble_eq_true rfl⟩) (pV (T := TX10) hP hK hD hT hG hS kb4 (by decide) rfl) rfl rfl hl.1 rfl (lv_room (Nat.le_of_ble_eq_true rfl)) dX0_oddsThatCarry_39 ⟨Nat.zero_le _, Nat.zero_le _⟩) hS (fun H locs hz6 hP hD hT hS => ?_)
              refine lv_if_eq (tgt := 55) hx hb dX0_oddsThatCarry_42 rfl (fun c7 => ?_) (fun c7 => ?_)
              · replace h := ite_t c7 h
                refine lv_iinc (v := y1_4 + 1) (lv' := [(4, .int (y1_4 + 1)), (5, .ref (ad b4)), (0, .ref (ad y1_0)), (1, .ref (ad b5)), (2, .long y1_2)]) hx hb dX0_oddsThatCarry_55 hl (k := 4) rfl rfl (by decide) rfl (fun ls hl => ?_)
                refine lv_goto (tgt := 5) hx hb dX0_oddsThatCarry_58 rfl ?_
                exact ih1 y1_0 (some b5) y1_2 (y1_4 + 1) ky1_0 (fun b hb => by cases hb; exact kb5) _ _ h hP hD hT hS ls (lv_sub hl [2, 3, 4, 0] rfl)
              · replace h := ite_f c7 h
                refine lv_lload_n hx hb dX0_oddsThatCarry_45 rfl (lv_at hl 3 rfl) ?_
                refine lv_aload_n hx hb dX0_oddsThatCarry_46 rfl (lv_at hl 1 rfl) ?_
                refine lv_iload hx hb dX0_oddsThatCarry_47 (lv_at hl 4 rfl) ?_
                refine lv_iconst (v := (-1)) hx hb dX0_oddsThatCarry_49 rfl ?_
                obtain ⟨z8, h8, h⟩ := ob_some h
                refine k_l (va_runV (As := [.int y1_4, .int (-1)]) (rest := [.long y1_2]) ⟨hx, hb, hml, hown, hts⟩ (c_X0_oddsOf (l := l) M y1_0 y1_4 (-1) ky1_0 h8) (cwV 2 hts gX0_oddsThatCarry_X0_oddsOf rfl rfl rfl hdV_X0_oddsOf ⟨Nat.le_of_ble_eq_true rfl, Nat.le_of_ble_eq_true rfl⟩) (pV (T := TX0) hP hK hD hT hG hS ky1_0 (by decide) rfl) rfl rfl hl.1 rfl (lv_room (Nat.le_of_ble_eq_true rfl)) dX0_oddsThatCarry_50 ⟨Nat.zero_le _, Nat.zero_le _⟩) hS (fun H locs hP hD hT hS => ?_)
                refine lv_ladd hx hb dX0_oddsThatCarry_53 ?_
                refine lv_lstore_n (lv' := [(2, .long (y1_2 + z8)), (5, .ref (ad b4)), (0, .ref (ad y1_0)), (1, .ref (ad b5)), (4, .int y1_4)]) hx hb dX0_oddsThatCarry_54 rfl hl (by decide) rfl (fun ls hl => ?_)
                refine lv_iinc (v := y1_4 + 1) (lv' := [(4, .int (y1_4 + 1)), (2, .long (y1_2 + z8)), (5, .ref (ad b4)), (0, .ref (ad y1_0)), (1, .ref (ad b5))]) hx hb dX0_oddsThatCarry_55 hl (k := 4) rfl rfl (by decide) rfl (fun ls hl => ?_)
                refine lv_goto (tgt := 5) hx hb dX0_oddsThatCarry_58 rfl ?_
                exact ih1 y1_0 (some b5) (y1_2 + z8) (y1_4 + 1) ky1_0 (fun b hb => by cases hb; exact kb5) _ _ h hP hD hT hS ls (lv_sub hl [3, 4, 1, 0] rfl)
    exact L1 FU a0 none 0 0 k0 (fun b hb => nomatch hb) _ _ h hP hD hT hS ls (lv_sub hl [2, 3, 1, 0] rfl)
  · skip
    have hl := lv_entry ([.ref (ad a0), va_rf ((some b1).map ad)]) (n := 6) (Nat.le_of_ble_eq_true rfl)
    rw [lg_entry_eq]
    generalize (lg_sl ([.ref (ad a0), va_rf ((some b1).map ad)]) ++ List.replicate (6 - (lg_sl ([.ref (ad a0), va_rf ((some b1).map ad)])).length) Slot.unset).toArray = ls at hl ⊢
    have hl : lv_has ls 6 [(0, .ref (ad a0)), (1, .ref (ad b1))] := hl
    replace h := oc_s rfl h
    have kb1 := k1 _ rfl
    refine lv_lconst (v := 0) hx hb dX0_oddsThatCarry_0 rfl ?_
    refine lv_lstore_n (lv' := [(2, .long 0), (0, .ref (ad a0)), (1, .ref (ad b1))]) hx hb dX0_oddsThatCarry_1 rfl hl (by decide) rfl (fun ls hl => ?_)
    refine lv_iconst (v := 0) hx hb dX0_oddsThatCarry_2 rfl ?_
    refine lv_istore (lv' := [(4, .int 0), (2, .long 0), (0, .ref (ad a0)), (1, .ref (ad b1))]) hx hb dX0_oddsThatCarry_3 hl (by decide) rfl (fun ls hl => ?_)
    have L9 : ∀ n9 : Nat, ∀ (y9_0 : Nat) (y9_1 : Nat) (y9_2 : Int64) (y9_4 : Int32) (ky9_0 : ok g y9_0 0 0) (ky9_1 : ok g y9_1 5 0) (H : Heap) (locs : List Loc), f_X0_oddsThatCarry_L5_1 n9 M y9_0 y9_1 y9_2 y9_4 = some Z → va_P D vwCl (wd ad cy g M) H → va_D A (wd ad cy g M) → WT g M → va_S A s.heap H locs → ∀ (ls : Array Slot), lv_has ls 6 [(0, .ref (ad y9_0)), (1, .ref (ad y9_1)), (2, .long y9_2), (4, .int y9_4)] → W p l e ((headSpec wsX0_oddsThatCarry ({ frames := 5, cells := 0, slots := 0, locals := 118 })).room) s m (([.ref (ad a0), va_rf ((some b1).map ad)] : List Value).toArray) below meth c H locs 0 0 (MQ below (va_Ql (fun r u => r = Z ∧ u = M) (Wd D ad cy A g q) A) ([.ref (ad a0), va_rf ((some b1).map ad)] : List Value).toArray s 0 0 A) (F0 m 5 ls []) := by
      intro n9
      induction n9 with
      | zero => intro y9_0 y9_1 y9_2 y9_4 ky9_0 ky9_1 H locs h; exact absurd h (by simp [f_X0_oddsThatCarry_L5_1])
      | succ n9 ih9 =>
        intro y9_0 y9_1 y9_2 y9_4 ky9_0 ky9_1 H locs h hP hD hT hS ls hl
        rw [f_X0_oddsThatCarry_L5_1] at h
        refine lv_iload hx hb dX0_oddsThatCarry_5 (lv_at hl 3 rfl) ?_
        refine lv_aload_n hx hb dX0_oddsThatCarry_7 rfl (lv_at hl 0 rfl) ?_
        refine lv_iconst (v := 0) hx hb dX0_oddsThatCarry_8 rfl ?_
        obtain ⟨z10, h10, h⟩ := ob_some h
        refine k_i (va_runV (As := [.int 0]) (rest := [.int y9_4]) ⟨hx, hb, hml, hown, hts⟩ (c_X0_count (l := l) M y9_0 0 ky9_0 h10) (cwV 1 hts gX0_oddsThatCarry_X0_count rfl rfl rfl hdV_X0_count ⟨Nat.le_of_ble_eq_true rfl, Nat.le_of_ble_eq_true rfl⟩) (pV (T := TX0) hP hK hD hT hG hS ky9_0 (by decide) rfl) rfl rfl hl.1 rfl (lv_room (Nat.le_of_ble_eq_true rfl)) dX0_oddsThatCarry_9 ⟨Nat.zero_le _, Nat.zero_le _⟩) hS (fun H locs hP hD hT hS => ?_)
        refine lv_icmp_ge (tgt := 61) hx hb dX0_oddsThatCarry_12 rfl (fun c11 => ?_) (fun c11 => ?_)
        · replace h := ite_t c11 h
          refine lv_lload_n hx hb dX0_oddsThatCarry_61 rfl (lv_at hl 2 rfl) ?_
          exact r_lret hx hb hr hlocks hP hK hD hT hG hS (Option.some.inj h) rfl dX0_oddsThatCarry_62
        · replace h := ite_f c11 h
          refine lv_aload_n hx hb dX0_oddsThatCarry_15 rfl (lv_at hl 0 rfl) ?_
          refine lv_iload hx hb dX0_oddsThatCarry_16 (lv_at hl 3 rfl) ?_
          obtain ⟨z12, h12, h⟩ := ob_some h
          refine k_q (va_runV (As := [.int y9_4]) (rest := []) ⟨hx, hb, hml, hown, hts⟩ (c_X0_wayAt (l := l) M y9_0 y9_4 ky9_0 h12) (cwV 1 hts gX0_oddsThatCarry_X0_wayAt rfl rfl rfl hdV_X0_wayAt ⟨Nat.le_of_ble_eq_true rfl, Nat.le_of_ble_eq_true rfl⟩) (pV (T := TX0) hP hK hD hT hG hS ky9_0 (by decide) rfl) rfl rfl hl.1 rfl (lv_room (Nat.le_of_ble_eq_true rfl)) dX0_oddsThatCarry_18 ⟨Nat.zero_le _, Nat.zero_le _⟩) hS (fun H locs hq12 hP hD hT hS => ?_)
          rcases hN12 : z12 with _ | b12
          · replace h := oc_n hN12 h
            show W _ _ _ _ _ _ _ _ _ _ _ _ _ _ _ (F0 _ _ _ (.null :: []))
            refine lv_astoreN (lv' := [(5, .null), (0, .ref (ad y9_0)), (1, .ref (ad y9_1)), (2, .long y9_2), (4, .int y9_4)]) hx hb dX0_oddsThatCarry_21 hl (by decide) rfl (fun ls hl => ?_)
            refine lv_aloadN hx hb dX0_oddsThatCarry_23 (lv_at hl 0 rfl) ?_
            refine lv_ifnullN (tgt := 55) hx hb dX0_oddsThatCarry_25 rfl ?_
            refine lv_iinc (v := y9_4 + 1) (lv' := [(4, .int (y9_4 + 1)), (5, .null), (0, .ref (ad y9_0)), (1, .ref (ad y9_1)), (2, .long y9_2)]) hx hb dX0_oddsThatCarry_55 hl (k := 4) rfl rfl (by decide) rfl (fun ls hl => ?_)
            refine lv_goto (tgt := 5) hx hb dX0_oddsThatCarry_58 rfl ?_
            exact ih9 y9_0 y9_1 y9_2 (y9_4 + 1) ky9_0 ky9_1 _ _ h hP hD hT hS ls (lv_sub hl [2, 3, 4, 0] rfl)
          · replace h := oc_s hN12 h
            have kb12 := hq12 _ hN12
            show W _ _ _ _ _ _ _ _ _ _ _ _ _ _ _ (F0 _ _ _ (.ref (ad b12) :: []))
            refine lv_astore (lv' := [(5, .ref (ad b12)), (0, .ref (ad y9_0)), (1, .ref (ad y9_1)), (2, .long y9_2), (4, .int y9_4)]) hx hb dX0_oddsThatCarry_21 hl (by decide) rfl (fun ls hl => ?_)
            refine lv_aload hx hb dX0_oddsThatCarry_23 (lv_at hl 0 rfl) ?_
            refine lv_ifnull hx hb dX0_oddsThatCarry_25 ?_
            refine lv_aload_n hx hb dX0_oddsThatCarry_28 rfl (lv_at hl 2 rfl) ?_
            refine lv_ifnull hx hb dX0_oddsThatCarry_29 ?_
            refine lv_aload hx hb dX0_oddsThatCarry_32 (lv_at hl 0 rfl) ?_
            refine lv_aload_n hx hb dX0_oddsThatCarry_34 rfl (lv_at hl 2 rfl) ?_
            refine lv_aload_n hx hb dX0_oddsThatCarry_35 rfl (lv_at hl 2 rfl) ?_
            refine r_get (T := TX5) (v := .int (gI M y9_1 7)) hx hb hts in5 hown hK hP ky9_1 (by decide) rfl 7 (by decide) (hts (.fieldLink RX0 104 "StoneWalk$Stone" "slope" "I") (List.mem_of_getElem? (i := 1) (by decide +kernel))) rfl (t := 0) rfl rfl dX0_oddsThatCarry_36 ?_
            obtain ⟨z13, h13, h⟩ := ob_some h
            refine k_z (va_runV (As := [.ref (ad y9_1), .int (gI M y9_1 7)]) (rest := []) ⟨hx, hb, hml, hown, hts⟩ (c_X10_carries (l := l) M b12 y9_1 (gI M y9_1 7) kb12 ky9_1 h13) (cwV 2 hts gX0_oddsThatCarry_X10_carries rfl rfl rfl hdV_X10_carries ⟨Nat.le_of_ble_eq_true rfl, Nat.le_of_ble_eq_true rfl⟩) (pV (T := TX10) hP hK hD hT hG hS kb12 (by decide) rfl) rfl rfl hl.1 rfl (lv_room (Nat.le_of_ble_eq_true rfl)) dX0_oddsThatCarry_39 ⟨Nat.zero_le _, Nat.zero_le _⟩) hS (fun H locs hz13 hP hD hT hS => ?_)
            refine lv_if_eq (tgt := 55) hx hb dX0_oddsThatCarry_42 rfl (fun c14 => ?_) (fun c14 => ?_)
            · replace h := ite_t c14 h
              refine lv_iinc (v := y9_4 + 1) (lv' := [(4, .int (y9_4 + 1)), (5, .ref (ad b12)), (0, .ref (ad y9_0)), (1, .ref (ad y9_1)), (2, .long y9_2)]) hx hb dX0_oddsThatCarry_55 hl (k := 4) rfl rfl (by decide) rfl (fun ls hl => ?_)
              refine lv_goto (tgt := 5) hx hb dX0_oddsThatCarry_58 rfl ?_
              exact ih9 y9_0 y9_1 y9_2 (y9_4 + 1) ky9_0 ky9_1 _ _ h hP hD hT hS ls (lv_sub hl [2, 3, 4, 0] rfl)
            · replace h := ite_f c14 h
              refine lv_lload_n hx hb dX0_oddsThatCarry_45 rfl (lv_at hl 3 rfl) ?_
              refine lv_aload_n hx hb dX0_oddsThatCarry_46 rfl (lv_at hl 1 rfl) ?_
              refine lv_iload hx hb dX0_oddsThatCarry_47 (lv_at hl 4 rfl) ?_
              refine lv_iconst (v := (-1)) hx hb dX0_oddsThatCarry_49 rfl ?_
              obtain ⟨z15, h15, h⟩ := ob_some h
              refine k_l (va_runV (As := [.int y9_4, .int (-1)]) (rest := [.long y9_2]) ⟨hx, hb, hml, hown, hts⟩ (c_X0_oddsOf (l := l) M y9_0 y9_4 (-1) ky9_0 h15) (cwV 2 hts gX0_oddsThatCarry_X0_oddsOf rfl rfl rfl hdV_X0_oddsOf ⟨Nat.le_of_ble_eq_true rfl, Nat.le_of_ble_eq_true rfl⟩) (pV (T := TX0) hP hK hD hT hG hS ky9_0 (by decide) rfl) rfl rfl hl.1 rfl (lv_room (Nat.le_of_ble_eq_true rfl)) dX0_oddsThatCarry_50 ⟨Nat.zero_le _, Nat.zero_le _⟩) hS (fun H locs hP hD hT hS => ?_)
              refine lv_ladd hx hb dX0_oddsThatCarry_53 ?_
              refine lv_lstore_n (lv' := [(2, .long (y9_2 + z15)), (5, .ref (ad b12)), (0, .ref (ad y9_0)), (1, .ref (ad y9_1)), (4, .int y9_4)]) hx hb dX0_oddsThatCarry_54 rfl hl (by decide) rfl (fun ls hl => ?_)
              refine lv_iinc (v := y9_4 + 1) (lv' := [(4, .int (y9_4 + 1)), (2, .long (y9_2 + z15)), (5, .ref (ad b12)), (0, .ref (ad y9_0)), (1, .ref (ad y9_1))]) hx hb dX0_oddsThatCarry_55 hl (k := 4) rfl rfl (by decide) rfl (fun ls hl => ?_)
              refine lv_goto (tgt := 5) hx hb dX0_oddsThatCarry_58 rfl ?_
              exact ih9 y9_0 y9_1 (y9_2 + z15) (y9_4 + 1) ky9_0 ky9_1 _ _ h hP hD hT hS ls (lv_sub hl [3, 4, 1, 0] rfl)
    exact L9 FU a0 b1 0 0 k0 kb1 _ _ h hP hD hT hS ls (lv_sub hl [2, 3, 1, 0] rfl)
set_option maxHeartbeats 4000000 in
set_option maxRecDepth 100000 in
theorem c_X0_bestThing {l : Launch} {D : va_G} {ad : Nat → Nat} {cy : Nat → ClassId} {A : Nat → Prop} {g : CG} {q : SE} (M : MM) (a0 : Nat) (k0 : ok g a0 0 0) {Z : Int32} (h : f_X0_bestThing M a0 = some Z) : Met l yX0_bestThing wsX0_bestThing ({ frames := 6, cells := 0, slots := 0, locals := 143 }) (va_Pc [.ref (ad a0)] (Wd D ad cy A g q M)) (va_Qi (fun r u => r = Z ∧ u = M) (Wd D ad cy A g q) A) 0 0 A := by
  refine Met.ofW (cc := cX0_bestThing) (maxL := 11) (ret := (some .int)) (by decide) rfl ?_
  intro p e s m args below meth c s₁ B hml hv
  obtain ⟨rfl, hP, hK, hD, hT, hG⟩ := hv
  have hx := B.exec
  have hb := B.bytes
  have hr := B.returns
  have hts := atoms_spec (ws := wsX0_bestThing) B.pre
  have hown : s.vm.findClass RX0 = some m.cls := findClass_of_methodNamed B.named
  have hlocks := B.notSynchronized
  have hS : va_S A s.heap s.heap [] := va_S.rf
  have hl := lv_entry ([.ref (ad a0)]) (n := 11) (Nat.le_of_ble_eq_true rfl)
  rw [lg_entry_eq]
  generalize (lg_sl ([.ref (ad a0)]) ++ List.replicate (11 - (lg_sl ([.ref (ad a0)])).length) Slot.unset).toArray = ls at hl ⊢
  have hl : lv_has ls 11 [(0, .ref (ad a0))] := hl
  unfold f_X0_bestThing at h
  refine lv_iconst (v := (-1)) hx hb dX0_bestThing_0 rfl ?_
  refine lv_istore_n (lv' := [(1, .int (-1)), (0, .ref (ad a0))]) hx hb dX0_bestThing_1 rfl hl (by decide) rfl (fun ls hl => ?_)
  refine lv_lconst (v := 0) hx hb dX0_bestThing_2 rfl ?_
  refine lv_lstore_n (lv' := [(2, .long 0), (1, .int (-1)), (0, .ref (ad a0))]) hx hb dX0_bestThing_3 rfl hl (by decide) rfl (fun ls hl => ?_)
  refine lv_aload_n hx hb dX0_bestThing_4 rfl (lv_at hl 2 rfl) ?_
  obtain ⟨z1, h1, h⟩ := ob_some h
  refine k_l (va_runV (As := []) (rest := []) ⟨hx, hb, hml, hown, hts⟩ (c_X0_oddsOfAll (l := l) M a0 k0 h1) (cwV 0 hts gX0_bestThing_X0_oddsOfAll rfl rfl rfl hdV_X0_oddsOfAll ⟨Nat.le_of_ble_eq_true rfl, Nat.le_of_ble_eq_true rfl⟩) (pV (T := TX0) hP hK hD hT hG hS k0 (by decide) rfl) rfl rfl hl.1 rfl (lv_room (Nat.le_of_ble_eq_true rfl)) dX0_bestThing_5 ⟨Nat.zero_le _, Nat.zero_le _⟩) hS (fun H locs hP hD hT hS => ?_)
  refine lv_lstore (lv' := [(4, .long z1), (2, .long 0), (1, .int (-1)), (0, .ref (ad a0))]) hx hb dX0_bestThing_8 hl (by decide) rfl (fun ls hl => ?_)
  refine lv_iconst (v := 0) hx hb dX0_bestThing_10 rfl ?_
  refine lv_istore (lv' := [(6, .int 0), (4, .long z1), (2, .long 0), (1, .int (-1)), (0, .ref (ad a0))]) hx hb dX0_bestThing_11 hl (by decide) rfl (fun ls hl => ?_)
  have L2 : ∀ n2 : Nat, ∀ (y2_0 : Nat) (y2_1 : Int32) (y2_2 : Int64) (y2_4 : Int64) (y2_6 : Int32) (ky2_0 : ok g y2_0 0 0) (H : Heap) (locs : List Loc), f_X0_bestThing_L13 n2 M y2_0 y2_1 y2_2 y2_4 y2_6 = some Z → va_P D vwCl (wd ad cy g M) H → va_D A (wd ad cy g M) → WT g M → va_S A s.heap H locs → ∀ (ls : Array Slot), lv_has ls 11 [(0, .ref (ad y2_0)), (1, .int y2_1), (2, .long y2_2), (4, .long y2_4), (6, .int y2_6)] → W p l e ((headSpec wsX0_bestThing ({ frames := 6, cells := 0, slots := 0, locals := 143 })).room) s m (([.ref (ad a0)] : List Value).toArray) below meth c H locs 0 0 (MQ below (va_Qi (fun r u => r = Z ∧ u = M) (Wd D ad cy A g q) A) ([.ref (ad a0)]).toArray s 0 0 A) (F0 m 13 ls []) := by
    intro n2
    induction n2 with
    | zero => intro y2_0 y2_1 y2_2 y2_4 y2_6 ky2_0 H locs h; exact absurd h (by simp [f_X0_bestThing_L13])
    | succ n2 ih2 =>
      intro y2_0 y2_1 y2_2 y2_4 y2_6 ky2_0 H locs h hP hD hT hS ls hl
      rw [f_X0_bestThing_L13] at h
      refine lv_iload hx hb dX0_bestThing_13 (lv_at hl 4 rfl) ?_
      refine lv_aload_n hx hb dX0_bestThing_15 rfl (lv_at hl 0 rfl) ?_
      refine lv_bipush (v := 6) hx hb dX0_bestThing_16 rfl ?_
      obtain ⟨z3, h3, h⟩ := ob_some h
      refine k_i (va_runV (As := [.int 6]) (rest := [.int y2_6]) ⟨hx, hb, hml, hown, hts⟩ (c_X0_count (l := l) M y2_0 6 ky2_0 h3) (cwV 1 hts gX0_bestThing_X0_count rfl rfl rfl hdV_X0_count ⟨Nat.le_of_ble_eq_true rfl, Nat.le_of_ble_eq_true rfl⟩) (pV (T := TX0) hP hK hD hT hG hS ky2_0 (by decide) rfl) rfl rfl hl.1 rfl (lv_room (Nat.le_of_ble_eq_true rfl)) dX0_bestThing_18 ⟨Nat.zero_le _, Nat.zero_le _⟩) hS (fun H locs hP hD hT hS => ?_)
      refine lv_icmp_ge (tgt := 72) hx hb dX0_bestThing_21 rfl (fun c4 => ?_) (fun c4 => ?_)
      · replace h := ite_t c4 h
        refine lv_iload_n hx hb dX0_bestThing_72 rfl (lv_at hl 1 rfl) ?_
        exact r_iret hx hb hr hlocks hP hK hD hT hG hS (Option.some.inj h) rfl dX0_bestThing_73
      · replace h := ite_f c4 h
        refine lv_aload_n hx hb dX0_bestThing_24 rfl (lv_at hl 0 rfl) ?_
        refine lv_aload_n hx hb dX0_bestThing_25 rfl (lv_at hl 0 rfl) ?_
        refine lv_iload hx hb dX0_bestThing_26 (lv_at hl 4 rfl) ?_
        obtain ⟨z5, h5, h⟩ := ob_some h
        refine k_q (va_runV (As := [.int y2_6]) (rest := [.ref (ad y2_0)]) ⟨hx, hb, hml, hown, hts⟩ (c_X0_thingAt (l := l) M y2_0 y2_6 ky2_0 h5) (cwV 1 hts gX0_bestThing_X0_thingAt rfl rfl rfl hdV_X0_thingAt ⟨Nat.le_of_ble_eq_true rfl, Nat.le_of_ble_eq_true rfl⟩) (pV (T := TX0) hP hK hD hT hG hS ky2_0 (by decide) rfl) rfl rfl hl.1 rfl (lv_room (Nat.le_of_ble_eq_true rfl)) dX0_bestThing_28 ⟨Nat.zero_le _, Nat.zero_le _⟩) hS (fun H locs hq5 hP hD hT hS => ?_)
        rcases hN5 : z5 with _ | b5
        · replace h := oc_n hN5 h
          show W _ _ _ _ _ _ _ _ _ _ _ _ _ _ _ (F0 _ _ _ (.null :: [.ref (ad y2_0)]))
          obtain ⟨z6, h6, h⟩ := ob_some h
          refine k_l (va_runV (As := [.null]) (rest := []) ⟨hx, hb, hml, hown, hts⟩ (c_X0_oddsThatCarry (l := l) M y2_0 none ky2_0 (fun b hb => nomatch hb) h6) (cwV 1 hts gX0_bestThing_X0_oddsThatCarry rfl rfl rfl hdV_X0_oddsThatCarry ⟨Nat.le_of_ble_eq_true rfl, Nat.le_of_ble_eq_true rfl⟩) (pV (T := TX0) hP hK hD hT hG hS ky2_0 (by decide) rfl) rfl rfl hl.1 rfl (lv_room (Nat.le_of_ble_eq_true rfl)) dX0_bestThing_31 ⟨Nat.zero_le _, Nat.zero_le _⟩) hS (fun H locs hP hD hT hS => ?_)
          refine lv_lstore (lv' := [(7, .long z6), (0, .ref (ad y2_0)), (1, .int y2_1), (2, .long y2_2), (4, .long y2_4), (6, .int y2_6)]) hx hb dX0_bestThing_34 hl (by decide) rfl (fun ls hl => ?_)
          refine lv_lload hx hb dX0_bestThing_36 (lv_at hl 0 rfl) ?_
          refine lv_lload hx hb dX0_bestThing_38 (lv_at hl 4 rfl) ?_
          refine lv_lload hx hb dX0_bestThing_40 (lv_at hl 0 rfl) ?_
          refine lv_lsub hx hb dX0_bestThing_42 ?_
          refine va_mmax_long hx hb (hml.trans hl.1.symm) hown (hts (.methodLink RX0 164 Lib.MathLoose.max_long.x) (List.mem_of_getElem? (i := 1) (by decide +kernel))) (hts (.static Lib.MathLoose.max_long.x) (List.mem_of_getElem? (i := 2) (by decide +kernel))) (hts (.initialized "java/lang/Math") (List.mem_of_getElem? (i := 3) (by decide +kernel))) (hts (.code Lib.MathLoose.max_long.x Lib.MathLoose.max_long.code 4 (some .long)) (List.mem_of_getElem? (i := 4) (by decide +kernel))) (Nat.le_of_ble_eq_true rfl) (Nat.le_of_ble_eq_true rfl) (Nat.zero_le _) (Nat.zero_le _) dX0_bestThing_43 ?_
          refine lv_lstore (lv' := [(9, .long (if y2_4 - z6 < z6 then z6 else y2_4 - z6)), (7, .long z6), (0, .ref (ad y2_0)), (1, .int y2_1), (2, .long y2_2), (4, .long y2_4), (6, .int y2_6)]) hx hb dX0_bestThing_46 hl (by decide) rfl (fun ls hl => ?_)
          refine lv_iload_n hx hb dX0_bestThing_48 rfl (lv_at hl 3 rfl) ?_
          refine lv_iconst (v := (-1)) hx hb dX0_bestThing_49 rfl ?_
          refine lv_icmp_eq (tgt := 60) hx hb dX0_bestThing_50 rfl (fun c7 => ?_) (fun c7 => ?_)
          · replace h := ite_t c7 h
            refine lv_iload hx hb dX0_bestThing_60 (lv_at hl 6 rfl) ?_
            refine lv_istore_n (lv' := [(1, .int y2_6), (9, .long (if y2_4 - z6 < z6 then z6 else y2_4 - z6)), (7, .long z6), (0, .ref (ad y2_0)), (2, .long y2_2), (4, .long y2_4), (6, .int y2_6)]) hx hb dX0_bestThing_62 rfl hl (by decide) rfl (fun ls hl => ?_)
            refine lv_lload hx hb dX0_bestThing_63 (lv_at hl 1 rfl) ?_
            refine lv_lstore_n (lv' := [(2, .long (if y2_4 - z6 < z6 then z6 else y2_4 - z6)), (1, .int y2_6), (9, .long (if y2_4 - z6 < z6 then z6 else y2_4 - z6)), (7, .long z6), (0, .ref (ad y2_0)), (4, .long y2_4), (6, .int y2_6)]) hx hb dX0_bestThing_65 rfl hl (by decide) rfl (fun ls hl => ?_)
            refine lv_iinc (v := y2_6 + 1) (lv' := [(6, .int (y2_6 + 1)), (2, .long (if y2_4 - z6 < z6 then z6 else y2_4 - z6)), (1, .int y2_6), (9, .long (if y2_4 - z6 < z6 then z6 else y2_4 - z6)), (7, .long z6), (0, .ref (ad y2_0)), (4, .long y2_4)]) hx hb dX0_bestThing_66 hl (k := 6) rfl rfl (by decide) rfl (fun ls hl => ?_)
            refine lv_goto (tgt := 13) hx hb dX0_bestThing_69 rfl ?_
            exact ih2 y2_0 y2_6 (if y2_4 - z6 < z6 then z6 else y2_4 - z6) y2_4 (y2_6 + 1) ky2_0 _ _ h hP hD hT hS ls (lv_sub hl [5, 2, 1, 6, 0] rfl)
          · replace h := ite_f c7 h
            refine lv_lload hx hb dX0_bestThing_53 (lv_at hl 0 rfl) ?_
            refine lv_lload_n hx hb dX0_bestThing_55 rfl (lv_at hl 4 rfl) ?_
            refine W.lcmp hx hb dX0_bestThing_56 ?_
            refine lv_if_ge (tgt := 66) hx hb dX0_bestThing_57 rfl (fun c8 => ?_) (fun c8 => ?_)
            · replace h := ite_t c8 h
              refine lv_iinc (v := y2_6 + 1) (lv' := [(6, .int (y2_6 + 1)), (9, .long (if y2_4 - z6 < z6 then z6 else y2_4 - z6)), (7, .long z6), (0, .ref (ad y2_0)), (1, .int y2_1), (2, .long y2_2), (4, .long y2_4)]) hx hb dX0_bestThing_66 hl (k := 6) rfl rfl (by decide) rfl (fun ls hl => ?_)
              refine lv_goto (tgt := 13) hx hb dX0_bestThing_69 rfl ?_
              exact ih2 y2_0 y2_1 y2_2 y2_4 (y2_6 + 1) ky2_0 _ _ h hP hD hT hS ls (lv_sub hl [3, 4, 5, 6, 0] rfl)
            · replace h := ite_f c8 h
              refine lv_iload hx hb dX0_bestThing_60 (lv_at hl 6 rfl) ?_
              refine lv_istore_n (lv' := [(1, .int y2_6), (9, .long (if y2_4 - z6 < z6 then z6 else y2_4 - z6)), (7, .long z6), (0, .ref (ad y2_0)), (2, .long y2_2), (4, .long y2_4), (6, .int y2_6)]) hx hb dX0_bestThing_62 rfl hl (by decide) rfl (fun ls hl => ?_)
              refine lv_lload hx hb dX0_bestThing_63 (lv_at hl 1 rfl) ?_
              refine lv_lstore_n (lv' := [(2, .long (if y2_4 - z6 < z6 then z6 else y2_4 - z6)), (1, .int y2_6), (9, .long (if y2_4 - z6 < z6 then z6 else y2_4 - z6)), (7, .long z6), (0, .ref (ad y2_0)), (4, .long y2_4), (6, .int y2_6)]) hx hb dX0_bestThing_65 rfl hl (by decide) rfl (fun ls hl => ?_)
              refine lv_iinc (v := y2_6 + 1) (lv' := [(6, .int (y2_6 + 1)), (2, .long (if y2_4 - z6 < z6 then z6 else y2_4 - z6)), (1, .int y2_6), (9, .long (if y2_4 - z6 < z6 then z6 else y2_4 - z6)), (7, .long z6), (0, .ref (ad y2_0)), (4, .long y2_4)]) hx hb dX0_bestThing_66 hl (k := 6) rfl rfl (by decide) rfl (fun ls hl => ?_)
              refine lv_goto (tgt := 13) hx hb dX0_bestThing_69 rfl ?_
              exact ih2 y2_0 y2_6 (if y2_4 - z6 < z6 then z6 else y2_4 - z6) y2_4 (y2_6 + 1) ky2_0 _ _ h hP hD hT hS ls (lv_sub hl [5, 2, 1, 6, 0] rfl)
        · replace h := oc_s hN5 h
          have kb5 := hq5 _ hN5
          show W _ _ _ _ _ _ _ _ _ _ _ _ _ _ _ (F0 _ _ _ (.ref (ad b5) :: [.ref (ad y2_0)]))
          obtain ⟨z9, h9, h⟩ := ob_some h
          refine k_l (va_runV (As := [.ref (ad b5)]) (rest := []) ⟨hx, hb, hml, hown, hts⟩ (c_X0_oddsThatCarry (l := l) M y2_0 (some b5) ky2_0 (fun b hb => by cases hb; exact kb5) h9) (cwV 1 hts gX0_bestThing_X0_oddsThatCarry rfl rfl rfl hdV_X0_oddsThatCarry ⟨Nat.le_of_ble_eq_true rfl, Nat.le_of_ble_eq_true rfl⟩) (pV (T := TX0) hP hK hD hT hG hS ky2_0 (by decide) rfl) rfl rfl hl.1 rfl (lv_room (Nat.le_of_ble_eq_true rfl)) dX0_bestThing_31 ⟨Nat.zero_le _, Nat.zero_le _⟩) hS (fun H locs hP hD hT hS => ?_)
          refine lv_lstore (lv' := [(7, .long z9), (0, .ref (ad y2_0)), (1, .int y2_1), (2, .long y2_2), (4, .long y2_4), (6, .int y2_6)]) hx hb dX0_bestThing_34 hl (by decide) rfl (fun ls hl => ?_)
          refine lv_lload hx hb dX0_bestThing_36 (lv_at hl 0 rfl) ?_
          refine lv_lload hx hb dX0_bestThing_38 (lv_at hl 4 rfl) ?_
          refine lv_lload hx hb dX0_bestThing_40 (lv_at hl 0 rfl) ?_
          refine lv_lsub hx hb dX0_bestThing_42 ?_
          refine va_mmax_long hx hb (hml.trans hl.1.symm) hown (hts (.methodLink RX0 164 Lib.MathLoose.max_long.x) (List.mem_of_getElem? (i := 1) (by decide +kernel))) (hts (.static Lib.MathLoose.max_long.x) (List.mem_of_getElem? (i := 2) (by decide +kernel))) (hts (.initialized "java/lang/Math") (List.mem_of_getElem? (i := 3) (by decide +kernel))) (hts (.code Lib.MathLoose.max_long.x Lib.MathLoose.max_long.code 4 (some .long)) (List.mem_of_getElem? (i := 4) (by decide +kernel))) (Nat.le_of_ble_eq_true rfl) (Nat.le_of_ble_eq_true rfl) (Nat.zero_le _) (Nat.zero_le _) dX0_bestThing_43 ?_
          refine lv_lstore (lv' := [(9, .long (if y2_4 - z9 < z9 then z9 else y2_4 - z9)), (7, .long z9), (0, .ref (ad y2_0)), (1, .int y2_1), (2, .long y2_2), (4, .long y2_4), (6, .int y2_6)]) hx hb dX0_bestThing_46 hl (by decide) rfl (fun ls hl => ?_)
          refine lv_iload_n hx hb dX0_bestThing_48 rfl (lv_at hl 3 rfl) ?_
          refine lv_iconst (v := (-1)) hx hb dX0_bestThing_49 rfl ?_
          refine lv_icmp_eq (tgt := 60) hx hb dX0_bestThing_50 rfl (fun c10 => ?_) (fun c10 => ?_)
          · replace h := ite_t c10 h
            refine lv_iload hx hb dX0_bestThing_60 (lv_at hl 6 rfl) ?_
            refine lv_istore_n (lv' := [(1, .int y2_6), (9, .long (if y2_4 - z9 < z9 then z9 else y2_4 - z9)), (7, .long z9), (0, .ref (ad y2_0)), (2, .long y2_2), (4, .long y2_4), (6, .int y2_6)]) hx hb dX0_bestThing_62 rfl hl (by decide) rfl (fun ls hl => ?_)
            refine lv_lload hx hb dX0_bestThing_63 (lv_at hl 1 rfl) ?_
            refine lv_lstore_n (lv' := [(2, .long (if y2_4 - z9 < z9 then z9 else y2_4 - z9)), (1, .int y2_6), (9, .long (if y2_4 - z9 < z9 then z9 else y2_4 - z9)), (7, .long z9), (0, .ref (ad y2_0)), (4, .long y2_4), (6, .int y2_6)]) hx hb dX0_bestThing_65 rfl hl (by decide) rfl (fun ls hl => ?_)
            refine lv_iinc (v := y2_6 + 1) (lv' := [(6, .int (y2_6 + 1)), (2, .long (if y2_4 - z9 < z9 then z9 else y2_4 - z9)), (1, .int y2_6), (9, .long (if y2_4 - z9 < z9 then z9 else y2_4 - z9)), (7, .long z9), (0, .ref (ad y2_0)), (4, .long y2_4)]) hx hb dX0_bestThing_66 hl (k := 6) rfl rfl (by decide) rfl (fun ls hl => ?_)
            refine lv_goto (tgt := 13) hx hb dX0_bestThing_69 rfl ?_
            exact ih2 y2_0 y2_6 (if y2_4 - z9 < z9 then z9 else y2_4 - z9) y2_4 (y2_6 + 1) ky2_0 _ _ h hP hD hT hS ls (lv_sub hl [5, 2, 1, 6, 0] rfl)
          · replace h := ite_f c10 h
            refine lv_lload hx hb dX0_bestThing_53 (lv_at hl 0 rfl) ?_
            refine lv_lload_n hx hb dX0_bestThing_55 rfl (lv_at hl 4 rfl) ?_
            refine W.lcmp hx hb dX0_bestThing_56 ?_
            refine lv_if_ge (tgt := 66) hx hb dX0_bestThing_57 rfl (fun c11 => ?_) (fun c11 => ?_)
            · replace h := ite_t c11 h
              refine lv_iinc (v := y2_6 + 1) (lv' := [(6, .int (y2_6 + 1)), (9, .long (if y2_4 - z9 < z9 then z9 else y2_4 - z9)), (7, .long z9), (0, .ref (ad y2_0)), (1, .int y2_1), (2, .long y2_2), (4, .long y2_4)]) hx hb dX0_bestThing_66 hl (k := 6) rfl rfl (by decide) rfl (fun ls hl => ?_)
              refine lv_goto (tgt := 13) hx hb dX0_bestThing_69 rfl ?_
              exact ih2 y2_0 y2_1 y2_2 y2_4 (y2_6 + 1) ky2_0 _ _ h hP hD hT hS ls (lv_sub hl [3, 4, 5, 6, 0] rfl)
            · replace h := ite_f c11 h
              refine lv_iload hx hb dX0_bestThing_60 (lv_at hl 6 rfl) ?_
              refine lv_istore_n (lv' := [(1, .int y2_6), (9, .long (if y2_4 - z9 < z9 then z9 else y2_4 - z9)), (7, .long z9), (0, .ref (ad y2_0)), (2, .long y2_2), (4, .long y2_4), (6, .int y2_6)]) hx hb dX0_bestThing_62 rfl hl (by decide) rfl (fun ls hl => ?_)
              refine lv_lload hx hb dX0_bestThing_63 (lv_at hl 1 rfl) ?_
              refine lv_lstore_n (lv' := [(2, .long (if y2_4 - z9 < z9 then z9 else y2_4 - z9)), (1, .int y2_6), (9, .long (if y2_4 - z9 < z9 then z9 else y2_4 - z9)), (7, .long z9), (0, .ref (ad y2_0)), (4, .long y2_4), (6, .int y2_6)]) hx hb dX0_bestThing_65 rfl hl (by decide) rfl (fun ls hl => ?_)
              refine lv_iinc (v := y2_6 + 1) (lv' := [(6, .int (y2_6 + 1)), (2, .long (if y2_4 - z9 < z9 then z9 else y2_4 - z9)), (1, .int y2_6), (9, .long (if y2_4 - z9 < z9 then z9 else y2_4 - z9)), (7, .long z9), (0, .ref (ad y2_0)), (4, .long y2_4)]) hx hb dX0_bestThing_66 hl (k := 6) rfl rfl (by decide) rfl (fun ls hl => ?_)
              refine lv_goto (tgt := 13) hx hb dX0_bestThing_69 rfl ?_
              exact ih2 y2_0 y2_6 (if y2_4 - z9 < z9 then z9 else y2_4 - z9) y2_4 (y2_6 + 1) ky2_0 _ _ h hP hD hT hS ls (lv_sub hl [5, 2, 1, 6, 0] rfl)
  exact L2 FU a0 (-1) 0 z1 0 k0 _ _ h hP hD hT hS ls (lv_sub hl [4, 3, 2, 1, 0] rfl)
set_option maxHeartbeats 4000000 in
set_option maxRecDepth 100000 in
theorem c_X0_further {l : Launch} {D : va_G} {ad : Nat → Nat} {cy : Nat → ClassId} {A : Nat → Prop} {g : CG} {q : SE} (M : MM) (x0 : Int32) (x1 : Int32) (x2 : Int32) {Z : Int32} (h : f_X0_further M x0 x1 x2 = some Z) : Met l yX0_further wsX0_further ({ frames := 1, cells := 0, slots := 0, locals := 23 }) (va_Pc [.int x0, .int x1, .int x2] (Wd D ad cy A g q M)) (va_Qi (fun r u => r = Z ∧ u = M) (Wd D ad cy A g q) A) 0 0 A := by
  refine Met.ofW (cc := cX0_further) (maxL := 3) (ret := (some .int)) (by decide) rfl ?_
  intro p e s m args below meth c s₁ B hml hv
  obtain ⟨rfl, hP, hK, hD, hT, hG⟩ := hv
  have hx := B.exec
  have hb := B.bytes
  have hr := B.returns
  have hts := atoms_spec (ws := wsX0_further) B.pre
  have hown : s.vm.findClass RX0 = some m.cls := findClass_of_methodNamed B.named
  have hlocks := B.notSynchronized
  have hS : va_S A s.heap s.heap [] := va_S.rf
  have hl := lv_entry ([.int x0, .int x1, .int x2]) (n := 3) (Nat.le_of_ble_eq_true rfl)
  rw [lg_entry_eq]
  generalize (lg_sl ([.int x0, .int x1, .int x2]) ++ List.replicate (3 - (lg_sl ([.int x0, .int x1, .int x2])).length) Slot.unset).toArray = ls at hl ⊢
  have hl : lv_has ls 3 [(0, .int x0), (1, .int x1), (2, .int x2)] := hl
  unfold f_X0_further at h
  refine lv_iload_n hx hb dX0_further_0 rfl (lv_at hl 0 rfl) ?_
  refine lv_iconst (v := (-1)) hx hb dX0_further_1 rfl ?_
  refine lv_icmp_ne (tgt := 7) hx hb dX0_further_2 rfl (fun c1 => ?_) (fun c1 => ?_)
  · replace h := ite_f c1 h
    refine lv_iload_n hx hb dX0_further_7 rfl (lv_at hl 2 rfl) ?_
    refine lv_if_eq (tgt := 19) hx hb dX0_further_8 rfl (fun c2 => ?_) (fun c2 => ?_)
    · replace h := ite_t c2 h
      refine lv_iload_n hx hb dX0_further_19 rfl (lv_at hl 0 rfl) ?_
      refine lv_iload_n hx hb dX0_further_20 rfl (lv_at hl 1 rfl) ?_
      refine va_mmin hx hb (hml.trans hl.1.symm) hown (hts (.methodLink RX0 200 Lib.Math.min.name) (List.mem_of_getElem? (i := 5) (by decide +kernel))) (hts (.static Lib.Math.min.name) (List.mem_of_getElem? (i := 6) (by decide +kernel))) (hts (.initialized "java/lang/Math") (List.mem_of_getElem? (i := 3) (by decide +kernel))) (hts (.code Lib.Math.min.name Lib.Math.min.code 2 (some .int)) (List.mem_of_getElem? (i := 7) (by decide +kernel))) (Nat.le_of_ble_eq_true rfl) (Nat.le_of_ble_eq_true rfl) (Nat.zero_le _) (Nat.zero_le _) dX0_further_21 ?_
      exact r_iret hx hb hr hlocks hP hK hD hT hG hS (Option.some.inj h) rfl dX0_further_24
    · replace h := ite_f c2 h
      refine lv_iload_n hx hb dX0_further_11 rfl (lv_at hl 0 rfl) ?_
      refine lv_iload_n hx hb dX0_further_12 rfl (lv_at hl 1 rfl) ?_
      refine va_mmax hx hb (hml.trans hl.1.symm) hown (hts (.methodLink RX0 192 Lib.Math.max.name) (List.mem_of_getElem? (i := 1) (by decide +kernel))) (hts (.static Lib.Math.max.name) (List.mem_of_getElem? (i := 2) (by decide +kernel))) (hts (.initialized "java/lang/Math") (List.mem_of_getElem? (i := 3) (by decide +kernel))) (hts (.code Lib.Math.max.name Lib.Math.max.code 2 (some .int)) (List.mem_of_getElem? (i := 4) (by decide +kernel))) (Nat.le_of_ble_eq_true rfl) (Nat.le_of_ble_eq_true rfl) (Nat.zero_le _) (Nat.zero_le _) dX0_further_13 ?_
      refine lv_goto (tgt := 24) hx hb dX0_further_16 rfl ?_
      exact r_iret hx hb hr hlocks hP hK hD hT hG hS (Option.some.inj h) rfl dX0_further_24
  · replace h := ite_t c1 h
    refine lv_iload_n hx hb dX0_further_5 rfl (lv_at hl 1 rfl) ?_
    exact r_iret hx hb hr hlocks hP hK hD hT hG hS (Option.some.inj h) rfl dX0_further_6
set_option maxHeartbeats 4000000 in
set_option maxRecDepth 100000 in
theorem c_X0_peopleByTrials {l : Launch} {D : va_G} {ad : Nat → Nat} {cy : Nat → ClassId} {A : Nat → Prop} {g : CG} {q : SE} (M : MM) (a0 : Nat) (x1 : Int32) (x2 : Int32) (x3 : Int32) (k0 : ok g a0 0 0) {Z : Int32} (h : f_X0_peopleByTrials M a0 x1 x2 x3 = some Z) : Met l yX0_peopleByTrials wsX0_peopleByTrials ({ frames := 2, cells := 0, slots := 0, locals := 45 }) (va_Pc [.ref (ad a0), .int x1, .int x2, .int x3] (Wd D ad cy A g q M)) (va_Qi (fun r u => r = Z ∧ u = M) (Wd D ad cy A g q) A) 0 0 A := by
  refine Met.ofW (cc := cX0_peopleByTrials) (maxL := 8) (ret := (some .int)) (by decide) rfl ?_
  intro p e s m args below meth c s₁ B hml hv
  obtain ⟨rfl, hP, hK, hD, hT, hG⟩ := hv
  have hx := B.exec
  have hb := B.bytes
  have hr := B.returns
  have hts := atoms_spec (ws := wsX0_peopleByTrials) B.pre
  have hown : s.vm.findClass RX0 = some m.cls := findClass_of_methodNamed B.named
  have hlocks := B.notSynchronized
  have in9 : ∀ w ∈ u_ws RX9 TX9 5, w ∈ wsX0_peopleByTrials := fun w h => List.mem_cons_of_mem _ (List.mem_append_left _ (List.mem_append_right _ h))
  have hS : va_S A s.heap s.heap [] := va_S.rf
  have hl := lv_entry ([.ref (ad a0), .int x1, .int x2, .int x3]) (n := 8) (Nat.le_of_ble_eq_true rfl)
  rw [lg_entry_eq]
  generalize (lg_sl ([.ref (ad a0), .int x1, .int x2, .int x3]) ++ List.replicate (8 - (lg_sl ([.ref (ad a0), .int x1, .int x2, .int x3])).length) Slot.unset).toArray = ls at hl ⊢
  have hl : lv_has ls 8 [(0, .ref (ad a0)), (1, .int x1), (2, .int x2), (3, .int x3)] := hl
  unfold f_X0_peopleByTrials at h
  refine lv_iconst (v := (-1)) hx hb dX0_peopleByTrials_0 rfl ?_
  refine lv_istore (lv' := [(4, .int (-1)), (0, .ref (ad a0)), (1, .int x1), (2, .int x2), (3, .int x3)]) hx hb dX0_peopleByTrials_1 hl (by decide) rfl (fun ls hl => ?_)
  refine lv_iconst (v := 0) hx hb dX0_peopleByTrials_3 rfl ?_
  refine lv_istore (lv' := [(5, .int 0), (4, .int (-1)), (0, .ref (ad a0)), (1, .int x1), (2, .int x2), (3, .int x3)]) hx hb dX0_peopleByTrials_4 hl (by decide) rfl (fun ls hl => ?_)
  refine lv_iconst (v := 0) hx hb dX0_peopleByTrials_6 rfl ?_
  refine lv_istore (lv' := [(6, .int 0), (5, .int 0), (4, .int (-1)), (0, .ref (ad a0)), (1, .int x1), (2, .int x2), (3, .int x3)]) hx hb dX0_peopleByTrials_7 hl (by decide) rfl (fun ls hl => ?_)
  have L1 : ∀ n1 : Nat, ∀ (y1_0 : Nat) (y1_1 : Int32) (y1_2 : Int32) (y1_3 : Int32) (y1_4 : Int32) (y1_5 : Int32) (y1_6 : Int32) (ky1_0 : ok g y1_0 0 0) (H : Heap) (locs : List Loc), f_X0_peopleByTrials_L9 n1 M y1_0 y1_1 y1_2 y1_3 y1_4 y1_5 y1_6 = some Z → va_P D vwCl (wd ad cy g M) H → va_D A (wd ad cy g M) → WT g M → va_S A s.heap H locs → ∀ (ls : Array Slot), lv_has ls 8 [(0, .ref (ad y1_0)), (1, .int y1_1), (2, .int y1_2), (3, .int y1_3), (4, .int y1_4), (5, .int y1_5), (6, .int y1_6)] → W p l e ((headSpec wsX0_peopleByTrials ({ frames := 2, cells := 0, slots := 0, locals := 45 })).room) s m (([.ref (ad a0), .int x1, .int x2, .int x3] : List Value).toArray) below meth c H locs 0 0 (MQ below (va_Qi (fun r u => r = Z ∧ u = M) (Wd D ad cy A g q) A) ([.ref (ad a0), .int x1, .int x2, .int x3]).toArray s 0 0 A) (F0 m 9 ls []) := by
    intro n1
    induction n1 with
    | zero => intro y1_0 y1_1 y1_2 y1_3 y1_4 y1_5 y1_6 ky1_0 H locs h; exact absurd h (by simp [f_X0_peopleByTrials_L9])
    | succ n1 ih1 =>
      intro y1_0 y1_1 y1_2 y1_3 y1_4 y1_5 y1_6 ky1_0 H locs h hP hD hT hS ls hl
      rw [f_X0_peopleByTrials_L9] at h
      refine lv_iload hx hb dX0_peopleByTrials_9 (lv_at hl 6 rfl) ?_
      refine lv_aload_n hx hb dX0_peopleByTrials_11 rfl (lv_at hl 0 rfl) ?_
      refine lv_iconst (v := 3) hx hb dX0_peopleByTrials_12 rfl ?_
      obtain ⟨z2, h2, h⟩ := ob_some h
      refine k_i (va_runV (As := [.int 3]) (rest := [.int y1_6]) ⟨hx, hb, hml, hown, hts⟩ (c_X0_count (l := l) M y1_0 3 ky1_0 h2) (cwV 1 hts gX0_peopleByTrials_X0_count rfl rfl rfl hdV_X0_count ⟨Nat.le_of_ble_eq_true rfl, Nat.le_of_ble_eq_true rfl⟩) (pV (T := TX0) hP hK hD hT hG hS ky1_0 (by decide) rfl) rfl rfl hl.1 rfl (lv_room (Nat.le_of_ble_eq_true rfl)) dX0_peopleByTrials_13 ⟨Nat.zero_le _, Nat.zero_le _⟩) hS (fun H locs hP hD hT hS => ?_)
      refine lv_icmp_ge (tgt := 82) hx hb dX0_peopleByTrials_16 rfl (fun c3 => ?_) (fun c3 => ?_)
      · replace h := ite_t c3 h
        refine lv_iload_n hx hb dX0_peopleByTrials_82 rfl (lv_at hl 2 rfl) ?_
        refine lv_iconst (v := 4) hx hb dX0_peopleByTrials_83 rfl ?_
        refine lv_iload hx hb dX0_peopleByTrials_84 (lv_at hl 5 rfl) ?_
        refine lv_imul hx hb dX0_peopleByTrials_86 ?_
        refine lv_icmp_le (tgt := 94) hx hb dX0_peopleByTrials_87 rfl (fun c4 => ?_) (fun c4 => ?_)
        · replace h := ite_t c4 h
          refine lv_iload hx hb dX0_peopleByTrials_94 (lv_at hl 4 rfl) ?_
          exact r_iret hx hb hr hlocks hP hK hD hT hG hS (Option.some.inj h) rfl dX0_peopleByTrials_96
        · replace h := ite_f c4 h
          refine lv_iconst (v := (-1)) hx hb dX0_peopleByTrials_90 rfl ?_
          refine lv_goto (tgt := 96) hx hb dX0_peopleByTrials_91 rfl ?_
          exact r_iret hx hb hr hlocks hP hK hD hT hG hS (Option.some.inj h) rfl dX0_peopleByTrials_96
      · replace h := ite_f c3 h
        refine lv_aload_n hx hb dX0_peopleByTrials_19 rfl (lv_at hl 0 rfl) ?_
        refine lv_iload hx hb dX0_peopleByTrials_20 (lv_at hl 6 rfl) ?_
        obtain ⟨z5, h5, h⟩ := ob_some h
        refine k_q (va_runV (As := [.int y1_6]) (rest := []) ⟨hx, hb, hml, hown, hts⟩ (c_X0_trialAt (l := l) M y1_0 y1_6 ky1_0 h5) (cwV 1 hts gX0_peopleByTrials_X0_trialAt rfl rfl rfl hdV_X0_trialAt ⟨Nat.le_of_ble_eq_true rfl, Nat.le_of_ble_eq_true rfl⟩) (pV (T := TX0) hP hK hD hT hG hS ky1_0 (by decide) rfl) rfl rfl hl.1 rfl (lv_room (Nat.le_of_ble_eq_true rfl)) dX0_peopleByTrials_22 ⟨Nat.zero_le _, Nat.zero_le _⟩) hS (fun H locs hq5 hP hD hT hS => ?_)
        rcases hN5 : z5 with _ | b5
        · replace h := oc_n hN5 h
          show W _ _ _ _ _ _ _ _ _ _ _ _ _ _ _ (F0 _ _ _ (.null :: []))
          refine lv_astoreN (lv' := [(7, .null), (0, .ref (ad y1_0)), (1, .int y1_1), (2, .int y1_2), (3, .int y1_3), (4, .int y1_4), (5, .int y1_5), (6, .int y1_6)]) hx hb dX0_peopleByTrials_25 hl (by decide) rfl (fun ls hl => ?_)
          refine lv_aloadN hx hb dX0_peopleByTrials_27 (lv_at hl 0 rfl) ?_
          refine lv_ifnullN (tgt := 76) hx hb dX0_peopleByTrials_29 rfl ?_
          refine lv_iinc (v := y1_6 + 1) (lv' := [(6, .int (y1_6 + 1)), (7, .null), (0, .ref (ad y1_0)), (1, .int y1_1), (2, .int y1_2), (3, .int y1_3), (4, .int y1_4), (5, .int y1_5)]) hx hb dX0_peopleByTrials_76 hl (k := 7) rfl rfl (by decide) rfl (fun ls hl => ?_)
          refine lv_goto (tgt := 9) hx hb dX0_peopleByTrials_79 rfl ?_
          exact ih1 y1_0 y1_1 y1_2 y1_3 y1_4 y1_5 (y1_6 + 1) ky1_0 _ _ h hP hD hT hS ls (lv_sub hl [2, 3, 4, 5, 6, 7, 0] rfl)
        · replace h := oc_s hN5 h
          have kb5 := hq5 _ hN5
          show W _ _ _ _ _ _ _ _ _ _ _ _ _ _ _ (F0 _ _ _ (.ref (ad b5) :: []))
          refine lv_astore (lv' := [(7, .ref (ad b5)), (0, .ref (ad y1_0)), (1, .int y1_1), (2, .int y1_2), (3, .int y1_3), (4, .int y1_4), (5, .int y1_5), (6, .int y1_6)]) hx hb dX0_peopleByTrials_25 hl (by decide) rfl (fun ls hl => ?_)
          refine lv_aload hx hb dX0_peopleByTrials_27 (lv_at hl 0 rfl) ?_
          refine lv_ifnull hx hb dX0_peopleByTrials_29 ?_
          refine lv_aload hx hb dX0_peopleByTrials_32 (lv_at hl 0 rfl) ?_
          refine r_get (T := TX9) (v := .int (gI M b5 0)) hx hb hts in9 hown hK hP kb5 (by decide) rfl 0 (by decide) (hts (.fieldLink RX0 178 "StoneWalk$Trial" "way" "I") (List.mem_of_getElem? (i := 1) (by decide +kernel))) rfl (t := 0) rfl rfl dX0_peopleByTrials_34 ?_
          refine lv_iload_n hx hb dX0_peopleByTrials_37 rfl (lv_at hl 2 rfl) ?_
          refine lv_icmp_ne (tgt := 76) hx hb dX0_peopleByTrials_38 rfl (fun c6 => ?_) (fun c6 => ?_)
          · replace h := ite_f c6 h
            refine lv_iinc (v := y1_6 + 1) (lv' := [(6, .int (y1_6 + 1)), (7, .ref (ad b5)), (0, .ref (ad y1_0)), (1, .int y1_1), (2, .int y1_2), (3, .int y1_3), (4, .int y1_4), (5, .int y1_5)]) hx hb dX0_peopleByTrials_76 hl (k := 7) rfl rfl (by decide) rfl (fun ls hl => ?_)
            refine lv_goto (tgt := 9) hx hb dX0_peopleByTrials_79 rfl ?_
            exact ih1 y1_0 y1_1 y1_2 y1_3 y1_4 y1_5 (y1_6 + 1) ky1_0 _ _ h hP hD hT hS ls (lv_sub hl [2, 3, 4, 5, 6, 7, 0] rfl)
          · replace h := ite_t c6 h
            refine lv_iload hx hb dX0_peopleByTrials_41 (lv_at hl 5 rfl) ?_
            refine lv_iload_n hx hb dX0_peopleByTrials_43 rfl (lv_at hl 3 rfl) ?_
            refine lv_aload hx hb dX0_peopleByTrials_44 (lv_at hl 0 rfl) ?_
            refine r_get (T := TX9) (v := .int (gI M b5 2)) hx hb hts in9 hown hK hP kb5 (by decide) rfl 2 (by decide) (hts (.fieldLink RX0 181 "StoneWalk$Trial" "people" "I") (List.mem_of_getElem? (i := 2) (by decide +kernel))) rfl (t := 0) rfl rfl dX0_peopleByTrials_46 ?_
            refine lv_imul hx hb dX0_peopleByTrials_49 ?_
            refine lv_aload hx hb dX0_peopleByTrials_50 (lv_at hl 0 rfl) ?_
            refine r_get (T := TX9) (v := .int (gI M b5 1)) hx hb hts in9 hown hK hP kb5 (by decide) rfl 1 (by decide) (hts (.fieldLink RX0 184 "StoneWalk$Trial" "tons" "I") (List.mem_of_getElem? (i := 3) (by decide +kernel))) rfl (t := 0) rfl rfl dX0_peopleByTrials_52 ?_
            obtain ⟨z7, h7, h⟩ := ob_some h
            refine k_i (va_runSN (As := [.int (y1_2 * (gI M b5 2)), .int (gI M b5 1)]) (rest := [.int y1_4]) ⟨hx, hb, hml, hown, hts⟩ (c_X11_upwards (l := l) M (y1_2 * (gI M b5 2)) (gI M b5 1) h7) ⟨va_cnB 2 hts gX0_peopleByTrials_X11_upwards_n185 rfl rfl rfl (hG.2.1 _ (List.mem_of_getElem? (i := 10) rfl)) (hts (.initialized RX11) (List.mem_of_getElem? (i := 15) (by decide +kernel))) hdS_X11_upwards ⟨Nat.le_of_ble_eq_true rfl, Nat.le_of_ble_eq_true rfl⟩, (hts (.static yX11_upwards) (List.mem_of_getElem? (i := 22) (by decide +kernel))), trivial⟩ (pS hP hK hD hT hG hS) rfl rfl hl.1 rfl (lv_room (Nat.le_of_ble_eq_true rfl)) dX0_peopleByTrials_55 ⟨Nat.zero_le _, Nat.zero_le _⟩) hS (fun H locs hP hD hT hS => ?_)
            refine lv_iload_n hx hb dX0_peopleByTrials_58 rfl (lv_at hl 4 rfl) ?_
            obtain ⟨z8, h8, h⟩ := ob_some h
            refine k_i (va_runS (As := [.int y1_4, .int z7, .int y1_3]) (rest := []) ⟨hx, hb, hml, hown, hts⟩ (c_X0_further (l := l) M y1_4 z7 y1_3 h8) (va_cwS 3 hts gX0_peopleByTrials_X0_further rfl rfl rfl hdS_X0_further ⟨Nat.le_of_ble_eq_true rfl, Nat.le_of_ble_eq_true rfl⟩) (pS hP hK hD hT hG hS) rfl rfl hl.1 rfl (lv_room (Nat.le_of_ble_eq_true rfl)) dX0_peopleByTrials_59 ⟨Nat.zero_le _, Nat.zero_le _⟩) hS (fun H locs hP hD hT hS => ?_)
            refine lv_istore (lv' := [(4, .int z8), (7, .ref (ad b5)), (0, .ref (ad y1_0)), (1, .int y1_1), (2, .int y1_2), (3, .int y1_3), (5, .int y1_5), (6, .int y1_6)]) hx hb dX0_peopleByTrials_62 hl (by decide) rfl (fun ls hl => ?_)
            refine lv_iload hx hb dX0_peopleByTrials_64 (lv_at hl 6 rfl) ?_
            refine lv_aload hx hb dX0_peopleByTrials_66 (lv_at hl 1 rfl) ?_
            refine r_get (T := TX9) (v := .int (gI M b5 1)) hx hb hts in9 hown hK hP kb5 (by decide) rfl 1 (by decide) (hts (.fieldLink RX0 184 "StoneWalk$Trial" "tons" "I") (List.mem_of_getElem? (i := 3) (by decide +kernel))) rfl (t := 0) rfl rfl dX0_peopleByTrials_68 ?_
            refine va_mmax hx hb (hml.trans hl.1.symm) hown (hts (.methodLink RX0 192 Lib.Math.max.name) (List.mem_of_getElem? (i := 4) (by decide +kernel))) (hts (.static Lib.Math.max.name) (List.mem_of_getElem? (i := 5) (by decide +kernel))) (hts (.initialized "java/lang/Math") (List.mem_of_getElem? (i := 6) (by decide +kernel))) (hts (.code Lib.Math.max.name Lib.Math.max.code 2 (some .int)) (List.mem_of_getElem? (i := 7) (by decide +kernel))) (Nat.le_of_ble_eq_true rfl) (Nat.le_of_ble_eq_true rfl) (Nat.zero_le _) (Nat.zero_le _) dX0_peopleByTrials_71 ?_
            refine lv_istore (lv' := [(5, .int (if y1_5 < gI M b5 1 then gI M b5 1 else y1_5)), (4, .int z8), (7, .ref (ad b5)), (0, .ref (ad y1_0)), (1, .int y1_1), (2, .int y1_2), (3, .int y1_3), (6, .int y1_6)]) hx hb dX0_peopleByTrials_74 hl (by decide) rfl (fun ls hl => ?_)
            refine lv_iinc (v := y1_6 + 1) (lv' := [(6, .int (y1_6 + 1)), (5, .int (if y1_5 < gI M b5 1 then gI M b5 1 else y1_5)), (4, .int z8), (7, .ref (ad b5)), (0, .ref (ad y1_0)), (1, .int y1_1), (2, .int y1_2), (3, .int y1_3)]) hx hb dX0_peopleByTrials_76 hl (k := 7) rfl rfl (by decide) rfl (fun ls hl => ?_)
            refine lv_goto (tgt := 9) hx hb dX0_peopleByTrials_79 rfl ?_
            exact ih1 y1_0 y1_1 y1_2 y1_3 z8 (if y1_5 < gI M b5 1 then gI M b5 1 else y1_5) (y1_6 + 1) ky1_0 _ _ h hP hD hT hS ls (lv_sub hl [4, 5, 6, 7, 2, 1, 0] rfl)
  exact L1 FU a0 x1 x2 x3 (-1) 0 0 k0 _ _ h hP hD hT hS ls (lv_sub hl [3, 4, 5, 6, 2, 1, 0] rfl)
set_option maxHeartbeats 4000000 in
set_option maxRecDepth 100000 in
theorem c_X0_minutesByTrials {l : Launch} {D : va_G} {ad : Nat → Nat} {cy : Nat → ClassId} {A : Nat → Prop} {g : CG} {q : SE} (M : MM) (a0 : Nat) (x1 : Int32) (x2 : Int32) (x3 : Int32) (k0 : ok g a0 0 0) {Z : Int32} (h : f_X0_minutesByTrials M a0 x1 x2 x3 = some Z) : Met l yX0_minutesByTrials wsX0_minutesByTrials ({ frames := 2, cells := 0, slots := 0, locals := 45 }) (va_Pc [.ref (ad a0), .int x1, .int x2, .int x3] (Wd D ad cy A g q M)) (va_Qi (fun r u => r = Z ∧ u = M) (Wd D ad cy A g q) A) 0 0 A := by
  refine Met.ofW (cc := cX0_minutesByTrials) (maxL := 7) (ret := (some .int)) (by decide) rfl ?_
  intro p e s m args below meth c s₁ B hml hv
  obtain ⟨rfl, hP, hK, hD, hT, hG⟩ := hv
  have hx := B.exec
  have hb := B.bytes
  have hr := B.returns
  have hts := atoms_spec (ws := wsX0_minutesByTrials) B.pre
  have hown : s.vm.findClass RX0 = some m.cls := findClass_of_methodNamed B.named
  have hlocks := B.notSynchronized
  have in9 : ∀ w ∈ u_ws RX9 TX9 5, w ∈ wsX0_minutesByTrials := fun w h => List.mem_cons_of_mem _ (List.mem_append_left _ (List.mem_append_right _ h))
  have hS : va_S A s.heap s.heap [] := va_S.rf
  have hl := lv_entry ([.ref (ad a0), .int x1, .int x2, .int x3]) (n := 7) (Nat.le_of_ble_eq_true rfl)
  rw [lg_entry_eq]
  generalize (lg_sl ([.ref (ad a0), .int x1, .int x2, .int x3]) ++ List.replicate (7 - (lg_sl ([.ref (ad a0), .int x1, .int x2, .int x3])).length) Slot.unset).toArray = ls at hl ⊢
  have hl : lv_has ls 7 [(0, .ref (ad a0)), (1, .int x1), (2, .int x2), (3, .int x3)] := hl
  unfold f_X0_minutesByTrials at h
  refine lv_iconst (v := (-1)) hx hb dX0_minutesByTrials_0 rfl ?_
  refine lv_istore (lv' := [(4, .int (-1)), (0, .ref (ad a0)), (1, .int x1), (2, .int x2), (3, .int x3)]) hx hb dX0_minutesByTrials_1 hl (by decide) rfl (fun ls hl => ?_)
  refine lv_iconst (v := 0) hx hb dX0_minutesByTrials_3 rfl ?_
  refine lv_istore (lv' := [(5, .int 0), (4, .int (-1)), (0, .ref (ad a0)), (1, .int x1), (2, .int x2), (3, .int x3)]) hx hb dX0_minutesByTrials_4 hl (by decide) rfl (fun ls hl => ?_)
  have L1 : ∀ n1 : Nat, ∀ (y1_0 : Nat) (y1_1 : Int32) (y1_2 : Int32) (y1_3 : Int32) (y1_4 : Int32) (y1_5 : Int32) (ky1_0 : ok g y1_0 0 0) (H : Heap) (locs : List Loc), f_X0_minutesByTrials_L6 n1 M y1_0 y1_1 y1_2 y1_3 y1_4 y1_5 = some Z → va_P D vwCl (wd ad cy g M) H → va_D A (wd ad cy g M) → WT g M → va_S A s.heap H locs → ∀ (ls : Array Slot), lv_has ls 7 [(0, .ref (ad y1_0)), (1, .int y1_1), (2, .int y1_2), (3, .int y1_3), (4, .int y1_4), (5, .int y1_5)] → W p l e ((headSpec wsX0_minutesByTrials ({ frames := 2, cells := 0, slots := 0, locals := 45 })).room) s m (([.ref (ad a0), .int x1, .int x2, .int x3] : List Value).toArray) below meth c H locs 0 0 (MQ below (va_Qi (fun r u => r = Z ∧ u = M) (Wd D ad cy A g q) A) ([.ref (ad a0), .int x1, .int x2, .int x3]).toArray s 0 0 A) (F0 m 6 ls []) := by
    intro n1
    induction n1 with
    | zero => intro y1_0 y1_1 y1_2 y1_3 y1_4 y1_5 ky1_0 H locs h; exact absurd h (by simp [f_X0_minutesByTrials_L6])
    | succ n1 ih1 =>
      intro y1_0 y1_1 y1_2 y1_3 y1_4 y1_5 ky1_0 H locs h hP hD hT hS ls hl
      rw [f_X0_minutesByTrials_L6] at h
      refine lv_iload hx hb dX0_minutesByTrials_6 (lv_at hl 5 rfl) ?_
      refine lv_aload_n hx hb dX0_minutesByTrials_8 rfl (lv_at hl 0 rfl) ?_
      refine lv_iconst (v := 3) hx hb dX0_minutesByTrials_9 rfl ?_
      obtain ⟨z2, h2, h⟩ := ob_some h
      refine k_i (va_runV (As := [.int 3]) (rest := [.int y1_5]) ⟨hx, hb, hml, hown, hts⟩ (c_X0_count (l := l) M y1_0 3 ky1_0 h2) (cwV 1 hts gX0_minutesByTrials_X0_count rfl rfl rfl hdV_X0_count ⟨Nat.le_of_ble_eq_true rfl, Nat.le_of_ble_eq_true rfl⟩) (pV (T := TX0) hP hK hD hT hG hS ky1_0 (by decide) rfl) rfl rfl hl.1 rfl (lv_room (Nat.le_of_ble_eq_true rfl)) dX0_minutesByTrials_10 ⟨Nat.zero_le _, Nat.zero_le _⟩) hS (fun H locs hP hD hT hS => ?_)
      refine lv_icmp_ge (tgt := 67) hx hb dX0_minutesByTrials_13 rfl (fun c3 => ?_) (fun c3 => ?_)
      · replace h := ite_t c3 h
        refine lv_iload hx hb dX0_minutesByTrials_67 (lv_at hl 4 rfl) ?_
        exact r_iret hx hb hr hlocks hP hK hD hT hG hS (Option.some.inj h) rfl dX0_minutesByTrials_69
      · replace h := ite_f c3 h
        refine lv_aload_n hx hb dX0_minutesByTrials_16 rfl (lv_at hl 0 rfl) ?_
        refine lv_iload hx hb dX0_minutesByTrials_17 (lv_at hl 5 rfl) ?_
        obtain ⟨z4, h4, h⟩ := ob_some h
        refine k_q (va_runV (As := [.int y1_5]) (rest := []) ⟨hx, hb, hml, hown, hts⟩ (c_X0_trialAt (l := l) M y1_0 y1_5 ky1_0 h4) (cwV 1 hts gX0_minutesByTrials_X0_trialAt rfl rfl rfl hdV_X0_trialAt ⟨Nat.le_of_ble_eq_true rfl, Nat.le_of_ble_eq_true rfl⟩) (pV (T := TX0) hP hK hD hT hG hS ky1_0 (by decide) rfl) rfl rfl hl.1 rfl (lv_room (Nat.le_of_ble_eq_true rfl)) dX0_minutesByTrials_19 ⟨Nat.zero_le _, Nat.zero_le _⟩) hS (fun H locs hq4 hP hD hT hS => ?_)
        rcases hN4 : z4 with _ | b4
        · replace h := oc_n hN4 h
          show W _ _ _ _ _ _ _ _ _ _ _ _ _ _ _ (F0 _ _ _ (.null :: []))
          refine lv_astoreN (lv' := [(6, .null), (0, .ref (ad y1_0)), (1, .int y1_1), (2, .int y1_2), (3, .int y1_3), (4, .int y1_4), (5, .int y1_5)]) hx hb dX0_minutesByTrials_22 hl (by decide) rfl (fun ls hl => ?_)
          refine lv_aloadN hx hb dX0_minutesByTrials_24 (lv_at hl 0 rfl) ?_
          refine lv_ifnullN (tgt := 61) hx hb dX0_minutesByTrials_26 rfl ?_
          refine lv_iinc (v := y1_5 + 1) (lv' := [(5, .int (y1_5 + 1)), (6, .null), (0, .ref (ad y1_0)), (1, .int y1_1), (2, .int y1_2), (3, .int y1_3), (4, .int y1_4)]) hx hb dX0_minutesByTrials_61 hl (k := 6) rfl rfl (by decide) rfl (fun ls hl => ?_)
          refine lv_goto (tgt := 6) hx hb dX0_minutesByTrials_64 rfl ?_
          exact ih1 y1_0 y1_1 y1_2 y1_3 y1_4 (y1_5 + 1) ky1_0 _ _ h hP hD hT hS ls (lv_sub hl [2, 3, 4, 5, 6, 0] rfl)
        · replace h := oc_s hN4 h
          have kb4 := hq4 _ hN4
          show W _ _ _ _ _ _ _ _ _ _ _ _ _ _ _ (F0 _ _ _ (.ref (ad b4) :: []))
          refine lv_astore (lv' := [(6, .ref (ad b4)), (0, .ref (ad y1_0)), (1, .int y1_1), (2, .int y1_2), (3, .int y1_3), (4, .int y1_4), (5, .int y1_5)]) hx hb dX0_minutesByTrials_22 hl (by decide) rfl (fun ls hl => ?_)
          refine lv_aload hx hb dX0_minutesByTrials_24 (lv_at hl 0 rfl) ?_
          refine lv_ifnull hx hb dX0_minutesByTrials_26 ?_
          refine lv_aload hx hb dX0_minutesByTrials_29 (lv_at hl 0 rfl) ?_
          refine r_get (T := TX9) (v := .int (gI M b4 0)) hx hb hts in9 hown hK hP kb4 (by decide) rfl 0 (by decide) (hts (.fieldLink RX0 178 "StoneWalk$Trial" "way" "I") (List.mem_of_getElem? (i := 1) (by decide +kernel))) rfl (t := 0) rfl rfl dX0_minutesByTrials_31 ?_
          refine lv_iload_n hx hb dX0_minutesByTrials_34 rfl (lv_at hl 2 rfl) ?_
          refine lv_icmp_ne (tgt := 61) hx hb dX0_minutesByTrials_35 rfl (fun c5 => ?_) (fun c5 => ?_)
          · replace h := ite_f c5 h
            refine lv_iinc (v := y1_5 + 1) (lv' := [(5, .int (y1_5 + 1)), (6, .ref (ad b4)), (0, .ref (ad y1_0)), (1, .int y1_1), (2, .int y1_2), (3, .int y1_3), (4, .int y1_4)]) hx hb dX0_minutesByTrials_61 hl (k := 6) rfl rfl (by decide) rfl (fun ls hl => ?_)
            refine lv_goto (tgt := 6) hx hb dX0_minutesByTrials_64 rfl ?_
            exact ih1 y1_0 y1_1 y1_2 y1_3 y1_4 (y1_5 + 1) ky1_0 _ _ h hP hD hT hS ls (lv_sub hl [2, 3, 4, 5, 6, 0] rfl)
          · replace h := ite_t c5 h
            refine lv_iload hx hb dX0_minutesByTrials_38 (lv_at hl 5 rfl) ?_
            refine lv_iload_n hx hb dX0_minutesByTrials_40 rfl (lv_at hl 3 rfl) ?_
            refine lv_aload hx hb dX0_minutesByTrials_41 (lv_at hl 0 rfl) ?_
            refine r_get (T := TX9) (v := .int (gI M b4 4)) hx hb hts in9 hown hK hP kb4 (by decide) rfl 4 (by decide) (hts (.fieldLink RX0 194 "StoneWalk$Trial" "minutes" "I") (List.mem_of_getElem? (i := 2) (by decide +kernel))) rfl (t := 0) rfl rfl dX0_minutesByTrials_43 ?_
            refine lv_imul hx hb dX0_minutesByTrials_46 ?_
            refine lv_aload hx hb dX0_minutesByTrials_47 (lv_at hl 0 rfl) ?_
            refine r_get (T := TX9) (v := .int (gI M b4 3)) hx hb hts in9 hown hK hP kb4 (by decide) rfl 3 (by decide) (hts (.fieldLink RX0 197 "StoneWalk$Trial" "yards" "I") (List.mem_of_getElem? (i := 3) (by decide +kernel))) rfl (t := 0) rfl rfl dX0_minutesByTrials_49 ?_
            obtain ⟨z6, h6, h⟩ := ob_some h
            refine k_i (va_runSN (As := [.int (y1_2 * (gI M b4 4)), .int (gI M b4 3)]) (rest := [.int y1_4]) ⟨hx, hb, hml, hown, hts⟩ (c_X11_upwards (l := l) M (y1_2 * (gI M b4 4)) (gI M b4 3) h6) ⟨va_cnB 2 hts gX0_minutesByTrials_X11_upwards_n185 rfl rfl rfl (hG.2.1 _ (List.mem_of_getElem? (i := 10) rfl)) (hts (.initialized RX11) (List.mem_of_getElem? (i := 11) (by decide +kernel))) hdS_X11_upwards ⟨Nat.le_of_ble_eq_true rfl, Nat.le_of_ble_eq_true rfl⟩, (hts (.static yX11_upwards) (List.mem_of_getElem? (i := 18) (by decide +kernel))), trivial⟩ (pS hP hK hD hT hG hS) rfl rfl hl.1 rfl (lv_room (Nat.le_of_ble_eq_true rfl)) dX0_minutesByTrials_52 ⟨Nat.zero_le _, Nat.zero_le _⟩) hS (fun H locs hP hD hT hS => ?_)
            refine lv_iload_n hx hb dX0_minutesByTrials_55 rfl (lv_at hl 4 rfl) ?_
            obtain ⟨z7, h7, h⟩ := ob_some h
            refine k_i (va_runS (As := [.int y1_4, .int z6, .int y1_3]) (rest := []) ⟨hx, hb, hml, hown, hts⟩ (c_X0_further (l := l) M y1_4 z6 y1_3 h7) (va_cwS 3 hts gX0_minutesByTrials_X0_further rfl rfl rfl hdS_X0_further ⟨Nat.le_of_ble_eq_true rfl, Nat.le_of_ble_eq_true rfl⟩) (pS hP hK hD hT hG hS) rfl rfl hl.1 rfl (lv_room (Nat.le_of_ble_eq_true rfl)) dX0_minutesByTrials_56 ⟨Nat.zero_le _, Nat.zero_le _⟩) hS (fun H locs hP hD hT hS => ?_)
            refine lv_istore (lv' := [(4, .int z7), (6, .ref (ad b4)), (0, .ref (ad y1_0)), (1, .int y1_1), (2, .int y1_2), (3, .int y1_3), (5, .int y1_5)]) hx hb dX0_minutesByTrials_59 hl (by decide) rfl (fun ls hl => ?_)
            refine lv_iinc (v := y1_5 + 1) (lv' := [(5, .int (y1_5 + 1)), (4, .int z7), (6, .ref (ad b4)), (0, .ref (ad y1_0)), (1, .int y1_1), (2, .int y1_2), (3, .int y1_3)]) hx hb dX0_minutesByTrials_61 hl (k := 6) rfl rfl (by decide) rfl (fun ls hl => ?_)
            refine lv_goto (tgt := 6) hx hb dX0_minutesByTrials_64 rfl ?_
            exact ih1 y1_0 y1_1 y1_2 y1_3 z7 (y1_5 + 1) ky1_0 _ _ h hP hD hT hS ls (lv_sub hl [3, 4, 5, 6, 1, 0] rfl)
  exact L1 FU a0 x1 x2 x3 (-1) 0 k0 _ _ h hP hD hT hS ls (lv_sub hl [2, 3, 4, 5, 1, 0] rfl)
set_option maxHeartbeats 4000000 in
set_option maxRecDepth 100000 in
theorem c_X10_woodFor {l : Launch} {D : va_G} {ad : Nat → Nat} {cy : Nat → ClassId} {A : Nat → Prop} {g : CG} {q : SE} (M : MM) (a0 : Nat) (x1 : Int32) (k0 : ok g a0 10 0) {Z : Int32} (h : f_X10_woodFor M a0 x1 = some Z) : Met l yX10_woodFor wsX10_woodFor ({ frames := 1, cells := 0, slots := 0, locals := 21 }) (va_Pc [.ref (ad a0), .int x1] (Wd D ad cy A g q M)) (va_Qi (fun r u => r = Z ∧ u = M) (Wd D ad cy A g q) A) 0 0 A := by
  refine Met.ofW (cc := cX10_woodFor) (maxL := 2) (ret := (some .int)) (by decide) rfl ?_
  intro p e s m args below meth c s₁ B hml hv
  obtain ⟨rfl, hP, hK, hD, hT, hG⟩ := hv
  have hx := B.exec
  have hb := B.bytes
  have hr := B.returns
  have hts := atoms_spec (ws := wsX10_woodFor) B.pre
  have hown : s.vm.findClass RX10 = some m.cls := findClass_of_methodNamed B.named
  have hlocks := B.notSynchronized
  have in10 : ∀ w ∈ u_ws RX10 TX10 3, w ∈ wsX10_woodFor := fun w h => List.mem_cons_of_mem _ (List.mem_append_right _ h)
  have hS : va_S A s.heap s.heap [] := va_S.rf
  have hl := lv_entry ([.ref (ad a0), .int x1]) (n := 2) (Nat.le_of_ble_eq_true rfl)
  rw [lg_entry_eq]
  generalize (lg_sl ([.ref (ad a0), .int x1]) ++ List.replicate (2 - (lg_sl ([.ref (ad a0), .int x1])).length) Slot.unset).toArray = ls at hl ⊢
  have hl : lv_has ls 2 [(0, .ref (ad a0)), (1, .int x1)] := hl
  unfold f_X10_woodFor at h
  refine r_sget (t := 3) hx hb hG hS hown (by decide) rfl (hts (.fieldLink RX10 82 "StoneWalk$Way" "WOOD_PER_TON" "[I") (List.mem_of_getElem? (i := 1) (by decide +kernel))) dX10_woodFor_0 ?_
  refine lv_aload_n hx hb dX10_woodFor_3 rfl (lv_at hl 0 rfl) ?_
  refine r_get (T := TX10) (v := .int (gI M a0 0)) hx hb hts in10 hown hK hP k0 (by decide) rfl 0 (by decide) (hts (.fieldLink RX10 9 "StoneWalk$Way" "kind" "I") (List.mem_of_getElem? (i := 2) (by decide +kernel))) rfl (t := 0) rfl rfl dX10_woodFor_4 ?_
  obtain ⟨z1, h1, h⟩ := ob_some h
  refine k_i (va_runSN (As := [.ref (q.1 3), .int (gI M a0 0)]) (rest := []) ⟨hx, hb, hml, hown, hts⟩ (c_X11_entry_s (l := l) M 3 (gI M a0 0) (by decide) h1) ⟨va_cnB 2 hts gX10_woodFor_X11_entry_n49 rfl rfl rfl (hG.2.1 _ (List.mem_of_getElem? (i := 16) rfl)) (hts (.initialized RX11) (List.mem_of_getElem? (i := 4) (by decide +kernel))) hdS_X11_entry ⟨Nat.le_of_ble_eq_true rfl, Nat.le_of_ble_eq_true rfl⟩, (hts (.static yX11_entry) (List.mem_of_getElem? (i := 3) (by decide +kernel))), trivial⟩ (pS hP hK hD hT hG hS) rfl rfl hl.1 rfl (lv_room (Nat.le_of_ble_eq_true rfl)) dX10_woodFor_7 ⟨Nat.zero_le _, Nat.zero_le _⟩) hS (fun H locs hP hD hT hS => ?_)
  refine lv_iload_n hx hb dX10_woodFor_10 rfl (lv_at hl 1 rfl) ?_
  refine lv_imul hx hb dX10_woodFor_11 ?_
  exact r_iret hx hb hr hlocks hP hK hD hT hG hS (Option.some.inj h) rfl dX10_woodFor_12
set_option maxHeartbeats 4000000 in
set_option maxRecDepth 100000 in
theorem c_X0_woodOf {l : Launch} {D : va_G} {ad : Nat → Nat} {cy : Nat → ClassId} {A : Nat → Prop} {g : CG} {q : SE} (M : MM) (a0 : Nat) (a1 : Nat) (k0 : ok g a0 0 0) (k1 : ok g a1 10 0) {Z : Int32} (h : f_X0_woodOf M a0 a1 = some Z) : Met l yX0_woodOf wsX0_woodOf ({ frames := 2, cells := 0, slots := 0, locals := 42 }) (va_Pc [.ref (ad a0), .ref (ad a1)] (Wd D ad cy A g q M)) (va_Qi (fun r u => r = Z ∧ u = M) (Wd D ad cy A g q) A) 0 0 A := by
  refine Met.ofW (cc := cX0_woodOf) (maxL := 7) (ret := (some .int)) (by decide) rfl ?_
  intro p e s m args below meth c s₁ B hml hv
  obtain ⟨rfl, hP, hK, hD, hT, hG⟩ := hv
  have hx := B.exec
  have hb := B.bytes
  have hr := B.returns
  have hts := atoms_spec (ws := wsX0_woodOf) B.pre
  have hown : s.vm.findClass RX0 = some m.cls := findClass_of_methodNamed B.named
  have hlocks := B.notSynchronized
  have in3 : ∀ w ∈ u_ws RX3 TX3 3, w ∈ wsX0_woodOf := fun w h => List.mem_cons_of_mem _ (List.mem_append_left _ (List.mem_append_left _ (List.mem_append_left _ (List.mem_append_right _ h))))
  have in5 : ∀ w ∈ u_ws RX5 TX5 8, w ∈ wsX0_woodOf := fun w h => List.mem_cons_of_mem _ (List.mem_append_left _ (List.mem_append_left _ (List.mem_append_right _ h)))
  have hS : va_S A s.heap s.heap [] := va_S.rf
  have hl := lv_entry ([.ref (ad a0), .ref (ad a1)]) (n := 7) (Nat.le_of_ble_eq_true rfl)
  rw [lg_entry_eq]
  generalize (lg_sl ([.ref (ad a0), .ref (ad a1)]) ++ List.replicate (7 - (lg_sl ([.ref (ad a0), .ref (ad a1)])).length) Slot.unset).toArray = ls at hl ⊢
  have hl : lv_has ls 7 [(0, .ref (ad a0)), (1, .ref (ad a1))] := hl
  unfold f_X0_woodOf at h
  refine lv_aload_n hx hb dX0_woodOf_0 rfl (lv_at hl 0 rfl) ?_
  refine lv_iconst (v := 0) hx hb dX0_woodOf_1 rfl ?_
  obtain ⟨z1, h1, h⟩ := ob_some h
  refine k_q (va_runV (As := [.int 0]) (rest := []) ⟨hx, hb, hml, hown, hts⟩ (c_X0_roadAt (l := l) M a0 0 k0 h1) (cwV 1 hts gX0_woodOf_X0_roadAt rfl rfl rfl hdV_X0_roadAt ⟨Nat.le_of_ble_eq_true rfl, Nat.le_of_ble_eq_true rfl⟩) (pV (T := TX0) hP hK hD hT hG hS k0 (by decide) rfl) rfl rfl hl.1 rfl (lv_room (Nat.le_of_ble_eq_true rfl)) dX0_woodOf_2 ⟨Nat.zero_le _, Nat.zero_le _⟩) hS (fun H locs hq1 hP hD hT hS => ?_)
  rcases hN1 : z1 with _ | b1
  · replace h := oc_n hN1 h
    show W _ _ _ _ _ _ _ _ _ _ _ _ _ _ _ (F0 _ _ _ (.null :: []))
    refine lv_astore_nN (lv' := [(2, .null), (0, .ref (ad a0)), (1, .ref (ad a1))]) hx hb dX0_woodOf_5 rfl hl (by decide) rfl (fun ls hl => ?_)
    refine lv_aload_nN hx hb dX0_woodOf_6 rfl (lv_at hl 0 rfl) ?_
    refine lv_ifnonnullN hx hb dX0_woodOf_7 ?_
    refine lv_iconst (v := 0) hx hb dX0_woodOf_10 rfl ?_
    refine lv_goto (tgt := 18) hx hb dX0_woodOf_11 rfl ?_
    refine lv_istore_n (lv' := [(3, .int 0), (2, .null), (0, .ref (ad a0)), (1, .ref (ad a1))]) hx hb dX0_woodOf_18 rfl hl (by decide) rfl (fun ls hl => ?_)
    refine lv_iconst (v := 0) hx hb dX0_woodOf_19 rfl ?_
    refine lv_istore (lv' := [(4, .int 0), (3, .int 0), (2, .null), (0, .ref (ad a0)), (1, .ref (ad a1))]) hx hb dX0_woodOf_20 hl (by decide) rfl (fun ls hl => ?_)
    refine lv_iconst (v := 0) hx hb dX0_woodOf_22 rfl ?_
    refine lv_istore (lv' := [(5, .int 0), (4, .int 0), (3, .int 0), (2, .null), (0, .ref (ad a0)), (1, .ref (ad a1))]) hx hb dX0_woodOf_23 hl (by decide) rfl (fun ls hl => ?_)
    have L2 : ∀ n2 : Nat, ∀ (y2_0 : Nat) (y2_1 : Nat) (y2_3 : Int32) (y2_4 : Int32) (y2_5 : Int32) (ky2_0 : ok g y2_0 0 0) (ky2_1 : ok g y2_1 10 0) (H : Heap) (locs : List Loc), f_X0_woodOf_L25 n2 M y2_0 y2_1 y2_3 y2_4 y2_5 = some Z → va_P D vwCl (wd ad cy g M) H → va_D A (wd ad cy g M) → WT g M → va_S A s.heap H locs → ∀ (ls : Array Slot), lv_has ls 7 [(0, .ref (ad y2_0)), (1, .ref (ad y2_1)), (3, .int y2_3), (4, .int y2_4), (5, .int y2_5)] → W p l e ((headSpec wsX0_woodOf ({ frames := 2, cells := 0, slots := 0, locals := 42 })).room) s m (([.ref (ad a0), .ref (ad a1)] : List Value).toArray) below meth c H locs 0 0 (MQ below (va_Qi (fun r u => r = Z ∧ u = M) (Wd D ad cy A g q) A) ([.ref (ad a0), .ref (ad a1)]).toArray s 0 0 A) (F0 m 25 ls []) := by
      intro n2
      induction n2 with
      | zero => intro y2_0 y2_1 y2_3 y2_4 y2_5 ky2_0 ky2_1 H locs h; exact absurd h (by simp [f_X0_woodOf_L25])
      | succ n2 ih2 =>
        intro y2_0 y2_1 y2_3 y2_4 y2_5 ky2_0 ky2_1 H locs h hP hD hT hS ls hl
        rw [f_X0_woodOf_L25] at h
        refine lv_iload hx hb dX0_woodOf_25 (lv_at hl 4 rfl) ?_
        refine lv_aload_n hx hb dX0_woodOf_27 rfl (lv_at hl 0 rfl) ?_
        refine lv_iconst (v := 2) hx hb dX0_woodOf_28 rfl ?_
        obtain ⟨z3, h3, h⟩ := ob_some h
        refine k_i (va_runV (As := [.int 2]) (rest := [.int y2_5]) ⟨hx, hb, hml, hown, hts⟩ (c_X0_count (l := l) M y2_0 2 ky2_0 h3) (cwV 1 hts gX0_woodOf_X0_count rfl rfl rfl hdV_X0_count ⟨Nat.le_of_ble_eq_true rfl, Nat.le_of_ble_eq_true rfl⟩) (pV (T := TX0) hP hK hD hT hG hS ky2_0 (by decide) rfl) rfl rfl hl.1 rfl (lv_room (Nat.le_of_ble_eq_true rfl)) dX0_woodOf_29 ⟨Nat.zero_le _, Nat.zero_le _⟩) hS (fun H locs hP hD hT hS => ?_)
        refine lv_icmp_ge (tgt := 115) hx hb dX0_woodOf_32 rfl (fun c4 => ?_) (fun c4 => ?_)
        · replace h := ite_t c4 h
          refine lv_iload hx hb dX0_woodOf_115 (lv_at hl 3 rfl) ?_
          exact r_iret hx hb hr hlocks hP hK hD hT hG hS (Option.some.inj h) rfl dX0_woodOf_117
        · replace h := ite_f c4 h
          refine lv_aload_n hx hb dX0_woodOf_35 rfl (lv_at hl 0 rfl) ?_
          refine lv_iload hx hb dX0_woodOf_36 (lv_at hl 4 rfl) ?_
          obtain ⟨z5, h5, h⟩ := ob_some h
          refine k_q (va_runV (As := [.int y2_5]) (rest := []) ⟨hx, hb, hml, hown, hts⟩ (c_X0_statueAt (l := l) M y2_0 y2_5 ky2_0 h5) (cwV 1 hts gX0_woodOf_X0_statueAt rfl rfl rfl hdV_X0_statueAt ⟨Nat.le_of_ble_eq_true rfl, Nat.le_of_ble_eq_true rfl⟩) (pV (T := TX0) hP hK hD hT hG hS ky2_0 (by decide) rfl) rfl rfl hl.1 rfl (lv_room (Nat.le_of_ble_eq_true rfl)) dX0_woodOf_38 ⟨Nat.zero_le _, Nat.zero_le _⟩) hS (fun H locs hq5 hP hD hT hS => ?_)
          rcases hN5 : z5 with _ | b5
          · replace h := oc_n hN5 h
            show W _ _ _ _ _ _ _ _ _ _ _ _ _ _ _ (F0 _ _ _ (.null :: []))
            refine lv_astoreN (lv' := [(6, .null), (0, .ref (ad y2_0)), (1, .ref (ad y2_1)), (3, .int y2_3), (4, .int y2_4), (5, .int y2_5)]) hx hb dX0_woodOf_41 hl (by decide) rfl (fun ls hl => ?_)
            refine lv_aloadN hx hb dX0_woodOf_43 (lv_at hl 0 rfl) ?_
            refine lv_ifnullN (tgt := 79) hx hb dX0_woodOf_45 rfl ?_
            refine lv_aloadN hx hb dX0_woodOf_79 (lv_at hl 0 rfl) ?_
            refine lv_ifnullN (tgt := 109) hx hb dX0_woodOf_81 rfl ?_
            refine lv_iinc (v := y2_5 + 1) (lv' := [(5, .int (y2_5 + 1)), (6, .null), (0, .ref (ad y2_0)), (1, .ref (ad y2_1)), (3, .int y2_3), (4, .int y2_4)]) hx hb dX0_woodOf_109 hl (k := 5) rfl rfl (by decide) rfl (fun ls hl => ?_)
            refine lv_goto (tgt := 25) hx hb dX0_woodOf_112 rfl ?_
            exact ih2 y2_0 y2_1 y2_3 y2_4 (y2_5 + 1) ky2_0 ky2_1 _ _ h hP hD hT hS ls (lv_sub hl [2, 3, 4, 5, 0] rfl)
          · replace h := oc_s hN5 h
            have kb5 := hq5 _ hN5
            show W _ _ _ _ _ _ _ _ _ _ _ _ _ _ _ (F0 _ _ _ (.ref (ad b5) :: []))
            refine lv_astore (lv' := [(6, .ref (ad b5)), (0, .ref (ad y2_0)), (1, .ref (ad y2_1)), (3, .int y2_3), (4, .int y2_4), (5, .int y2_5)]) hx hb dX0_woodOf_41 hl (by decide) rfl (fun ls hl => ?_)
            refine lv_aload hx hb dX0_woodOf_43 (lv_at hl 0 rfl) ?_
            refine lv_ifnull hx hb dX0_woodOf_45 ?_
            refine lv_aload hx hb dX0_woodOf_48 (lv_at hl 0 rfl) ?_
            obtain ⟨z6, h6, h⟩ := ob_some h
            refine k_z (va_runV (As := []) (rest := []) ⟨hx, hb, hml, hown, hts⟩ (c_X5_isLying (l := l) M b5 kb5 h6) (cwV 0 hts gX0_woodOf_X5_isLying rfl rfl rfl hdV_X5_isLying ⟨Nat.le_of_ble_eq_true rfl, Nat.le_of_ble_eq_true rfl⟩) (pV (T := TX5) hP hK hD hT hG hS kb5 (by decide) rfl) rfl rfl hl.1 rfl (lv_room (Nat.le_of_ble_eq_true rfl)) dX0_woodOf_50 ⟨Nat.zero_le _, Nat.zero_le _⟩) hS (fun H locs hz6 hP hD hT hS => ?_)
            refine lv_if_eq (tgt := 79) hx hb dX0_woodOf_53 rfl (fun c7 => ?_) (fun c7 => ?_)
            · replace h := ite_t c7 h
              refine lv_aload hx hb dX0_woodOf_79 (lv_at hl 0 rfl) ?_
              refine lv_ifnull hx hb dX0_woodOf_81 ?_
              refine lv_aload hx hb dX0_woodOf_84 (lv_at hl 0 rfl) ?_
              refine r_get (T := TX5) (v := .int (gI M b5 3)) hx hb hts in5 hown hK hP kb5 (by decide) rfl 3 (by decide) (hts (.fieldLink RX0 144 "StoneWalk$Stone" "sort" "I") (List.mem_of_getElem? (i := 4) (by decide +kernel))) rfl (t := 0) rfl rfl dX0_woodOf_86 ?_
              refine lv_iconst (v := 3) hx hb dX0_woodOf_89 rfl ?_
              refine lv_icmp_ne (tgt := 109) hx hb dX0_woodOf_90 rfl (fun c8 => ?_) (fun c8 => ?_)
              · replace h := ite_f c8 h
                refine lv_iinc (v := y2_5 + 1) (lv' := [(5, .int (y2_5 + 1)), (6, .ref (ad b5)), (0, .ref (ad y2_0)), (1, .ref (ad y2_1)), (3, .int y2_3), (4, .int y2_4)]) hx hb dX0_woodOf_109 hl (k := 5) rfl rfl (by decide) rfl (fun ls hl => ?_)
                refine lv_goto (tgt := 25) hx hb dX0_woodOf_112 rfl ?_
                exact ih2 y2_0 y2_1 y2_3 y2_4 (y2_5 + 1) ky2_0 ky2_1 _ _ h hP hD hT hS ls (lv_sub hl [2, 3, 4, 5, 0] rfl)
              · replace h := ite_t c8 h
                refine lv_iload hx hb dX0_woodOf_93 (lv_at hl 4 rfl) ?_
                refine lv_aload_n hx hb dX0_woodOf_95 rfl (lv_at hl 2 rfl) ?_
                refine lv_aload hx hb dX0_woodOf_96 (lv_at hl 0 rfl) ?_
                refine r_get (T := TX5) (v := .int (gI M b5 0)) hx hb hts in5 hown hK hP kb5 (by decide) rfl 0 (by decide) (hts (.fieldLink RX0 86 "StoneWalk$Stone" "tons" "I") (List.mem_of_getElem? (i := 2) (by decide +kernel))) rfl (t := 0) rfl rfl dX0_woodOf_98 ?_
                obtain ⟨z9, h9, h⟩ := ob_some h
                refine k_i (va_runV (As := [.int (gI M b5 0)]) (rest := [.int y2_4]) ⟨hx, hb, hml, hown, hts⟩ (c_X10_woodFor (l := l) M y2_1 (gI M b5 0) ky2_1 h9) (cwV 1 hts gX0_woodOf_X10_woodFor rfl rfl rfl hdV_X10_woodFor ⟨Nat.le_of_ble_eq_true rfl, Nat.le_of_ble_eq_true rfl⟩) (pV (T := TX10) hP hK hD hT hG hS ky2_1 (by decide) rfl) rfl rfl hl.1 rfl (lv_room (Nat.le_of_ble_eq_true rfl)) dX0_woodOf_101 ⟨Nat.zero_le _, Nat.zero_le _⟩) hS (fun H locs hP hD hT hS => ?_)
                refine lv_iload_n hx hb dX0_woodOf_104 rfl (lv_at hl 3 rfl) ?_
                refine lv_imul hx hb dX0_woodOf_105 ?_
                refine lv_iadd hx hb dX0_woodOf_106 ?_
                refine lv_istore (lv' := [(4, .int (y2_4 + (z9 * y2_3))), (6, .ref (ad b5)), (0, .ref (ad y2_0)), (1, .ref (ad y2_1)), (3, .int y2_3), (5, .int y2_5)]) hx hb dX0_woodOf_107 hl (by decide) rfl (fun ls hl => ?_)
                refine lv_iinc (v := y2_5 + 1) (lv' := [(5, .int (y2_5 + 1)), (4, .int (y2_4 + (z9 * y2_3))), (6, .ref (ad b5)), (0, .ref (ad y2_0)), (1, .ref (ad y2_1)), (3, .int y2_3)]) hx hb dX0_woodOf_109 hl (k := 5) rfl rfl (by decide) rfl (fun ls hl => ?_)
                refine lv_goto (tgt := 25) hx hb dX0_woodOf_112 rfl ?_
                exact ih2 y2_0 y2_1 y2_3 (y2_4 + (z9 * y2_3)) (y2_5 + 1) ky2_0 ky2_1 _ _ h hP hD hT hS ls (lv_sub hl [3, 4, 5, 1, 0] rfl)
            · replace h := ite_f c7 h
              refine lv_iload hx hb dX0_woodOf_56 (lv_at hl 4 rfl) ?_
              refine lv_aload_n hx hb dX0_woodOf_58 rfl (lv_at hl 2 rfl) ?_
              refine lv_aload hx hb dX0_woodOf_59 (lv_at hl 0 rfl) ?_
              refine r_get (T := TX5) (v := .int (gI M b5 0)) hx hb hts in5 hown hK hP kb5 (by decide) rfl 0 (by decide) (hts (.fieldLink RX0 86 "StoneWalk$Stone" "tons" "I") (List.mem_of_getElem? (i := 2) (by decide +kernel))) rfl (t := 0) rfl rfl dX0_woodOf_61 ?_
              obtain ⟨z10, h10, h⟩ := ob_some h
              refine k_i (va_runV (As := [.int (gI M b5 0)]) (rest := [.int y2_4]) ⟨hx, hb, hml, hown, hts⟩ (c_X10_woodFor (l := l) M y2_1 (gI M b5 0) ky2_1 h10) (cwV 1 hts gX0_woodOf_X10_woodFor rfl rfl rfl hdV_X10_woodFor ⟨Nat.le_of_ble_eq_true rfl, Nat.le_of_ble_eq_true rfl⟩) (pV (T := TX10) hP hK hD hT hG hS ky2_1 (by decide) rfl) rfl rfl hl.1 rfl (lv_room (Nat.le_of_ble_eq_true rfl)) dX0_woodOf_64 ⟨Nat.zero_le _, Nat.zero_le _⟩) hS (fun H locs hP hD hT hS => ?_)
              refine lv_aload hx hb dX0_woodOf_67 (lv_at hl 0 rfl) ?_
              refine r_get (T := TX5) (v := .int (gI M b5 6)) hx hb hts in5 hown hK hP kb5 (by decide) rfl 6 (by decide) (hts (.fieldLink RX0 206 "StoneWalk$Stone" "place" "I") (List.mem_of_getElem? (i := 3) (by decide +kernel))) rfl (t := 0) rfl rfl dX0_woodOf_69 ?_
              refine lv_imul hx hb dX0_woodOf_72 ?_
              refine lv_iadd hx hb dX0_woodOf_73 ?_
              refine lv_istore (lv' := [(4, .int (y2_4 + (z10 * (gI M b5 6)))), (6, .ref (ad b5)), (0, .ref (ad y2_0)), (1, .ref (ad y2_1)), (3, .int y2_3), (5, .int y2_5)]) hx hb dX0_woodOf_74 hl (by decide) rfl (fun ls hl => ?_)
              refine lv_goto (tgt := 109) hx hb dX0_woodOf_76 rfl ?_
              refine lv_iinc (v := y2_5 + 1) (lv' := [(5, .int (y2_5 + 1)), (4, .int (y2_4 + (z10 * (gI M b5 6)))), (6, .ref (ad b5)), (0, .ref (ad y2_0)), (1, .ref (ad y2_1)), (3, .int y2_3)]) hx hb dX0_woodOf_109 hl (k := 5) rfl rfl (by decide) rfl (fun ls hl => ?_)
              refine lv_goto (tgt := 25) hx hb dX0_woodOf_112 rfl ?_
              exact ih2 y2_0 y2_1 y2_3 (y2_4 + (z10 * (gI M b5 6))) (y2_5 + 1) ky2_0 ky2_1 _ _ h hP hD hT hS ls (lv_sub hl [3, 4, 5, 1, 0] rfl)
    exact L2 FU a0 a1 0 0 0 k0 k1 _ _ h hP hD hT hS ls (lv_sub hl [4, 5, 2, 1, 0] rfl)
  · replace h := oc_s hN1 h
    have kb1 := hq1 _ hN1
    show W _ _ _ _ _ _ _ _ _ _ _ _ _ _ _ (F0 _ _ _ (.ref (ad b1) :: []))
    refine lv_astore_n (lv' := [(2, .ref (ad b1)), (0, .ref (ad a0)), (1, .ref (ad a1))]) hx hb dX0_woodOf_5 rfl hl (by decide) rfl (fun ls hl => ?_)
    refine lv_aload_n hx hb dX0_woodOf_6 rfl (lv_at hl 0 rfl) ?_
    refine lv_ifnonnull (tgt := 14) hx hb dX0_woodOf_7 rfl ?_
    refine lv_aload_n hx hb dX0_woodOf_14 rfl (lv_at hl 0 rfl) ?_
    refine r_get (T := TX3) (v := .int (gI M b1 1)) hx hb hts in3 hown hK hP kb1 (by decide) rfl 1 (by decide) (hts (.fieldLink RX0 75 "StoneWalk$Road" "held" "I") (List.mem_of_getElem? (i := 1) (by decide +kernel))) rfl (t := 0) rfl rfl dX0_woodOf_15 ?_
    refine lv_istore_n (lv' := [(3, .int (gI M b1 1)), (2, .ref (ad b1)), (0, .ref (ad a0)), (1, .ref (ad a1))]) hx hb dX0_woodOf_18 rfl hl (by decide) rfl (fun ls hl => ?_)
    refine lv_iconst (v := 0) hx hb dX0_woodOf_19 rfl ?_
    refine lv_istore (lv' := [(4, .int 0), (3, .int (gI M b1 1)), (2, .ref (ad b1)), (0, .ref (ad a0)), (1, .ref (ad a1))]) hx hb dX0_woodOf_20 hl (by decide) rfl (fun ls hl => ?_)
    refine lv_iconst (v := 0) hx hb dX0_woodOf_22 rfl ?_
    refine lv_istore (lv' := [(5, .int 0), (4, .int 0), (3, .int (gI M b1 1)), (2, .ref (ad b1)), (0, .ref (ad a0)), (1, .ref (ad a1))]) hx hb dX0_woodOf_23 hl (by decide) rfl (fun ls hl => ?_)
    have L11 : ∀ n11 : Nat, ∀ (y11_0 : Nat) (y11_1 : Nat) (y11_3 : Int32) (y11_4 : Int32) (y11_5 : Int32) (ky11_0 : ok g y11_0 0 0) (ky11_1 : ok g y11_1 10 0) (H : Heap) (locs : List Loc), f_X0_woodOf_L25_1 n11 M y11_0 y11_1 y11_3 y11_4 y11_5 = some Z → va_P D vwCl (wd ad cy g M) H → va_D A (wd ad cy g M) → WT g M → va_S A s.heap H locs → ∀ (ls : Array Slot), lv_has ls 7 [(0, .ref (ad y11_0)), (1, .ref (ad y11_1)), (3, .int y11_3), (4, .int y11_4), (5, .int y11_5)] → W p l e ((headSpec wsX0_woodOf ({ frames := 2, cells := 0, slots := 0, locals := 42 })).room) s m (([.ref (ad a0), .ref (ad a1)] : List Value).toArray) below meth c H locs 0 0 (MQ below (va_Qi (fun r u => r = Z ∧ u = M) (Wd D ad cy A g q) A) ([.ref (ad a0), .ref (ad a1)]).toArray s 0 0 A) (F0 m 25 ls []) := by
      intro n11
      induction n11 with
      | zero => intro y11_0 y11_1 y11_3 y11_4 y11_5 ky11_0 ky11_1 H locs h; exact absurd h (by simp [f_X0_woodOf_L25_1])
      | succ n11 ih11 =>
        intro y11_0 y11_1 y11_3 y11_4 y11_5 ky11_0 ky11_1 H locs h hP hD hT hS ls hl
        rw [f_X0_woodOf_L25_1] at h
        refine lv_iload hx hb dX0_woodOf_25 (lv_at hl 4 rfl) ?_
        refine lv_aload_n hx hb dX0_woodOf_27 rfl (lv_at hl 0 rfl) ?_
        refine lv_iconst (v := 2) hx hb dX0_woodOf_28 rfl ?_
        obtain ⟨z12, h12, h⟩ := ob_some h
        refine k_i (va_runV (As := [.int 2]) (rest := [.int y11_5]) ⟨hx, hb, hml, hown, hts⟩ (c_X0_count (l := l) M y11_0 2 ky11_0 h12) (cwV 1 hts gX0_woodOf_X0_count rfl rfl rfl hdV_X0_count ⟨Nat.le_of_ble_eq_true rfl, Nat.le_of_ble_eq_true rfl⟩) (pV (T := TX0) hP hK hD hT hG hS ky11_0 (by decide) rfl) rfl rfl hl.1 rfl (lv_room (Nat.le_of_ble_eq_true rfl)) dX0_woodOf_29 ⟨Nat.zero_le _, Nat.zero_le _⟩) hS (fun H locs hP hD hT hS => ?_)
        refine lv_icmp_ge (tgt := 115) hx hb dX0_woodOf_32 rfl (fun c13 => ?_) (fun c13 => ?_)
        · replace h := ite_t c13 h
          refine lv_iload hx hb dX0_woodOf_115 (lv_at hl 3 rfl) ?_
          exact r_iret hx hb hr hlocks hP hK hD hT hG hS (Option.some.inj h) rfl dX0_woodOf_117
        · replace h := ite_f c13 h
          refine lv_aload_n hx hb dX0_woodOf_35 rfl (lv_at hl 0 rfl) ?_
          refine lv_iload hx hb dX0_woodOf_36 (lv_at hl 4 rfl) ?_
          obtain ⟨z14, h14, h⟩ := ob_some h
          refine k_q (va_runV (As := [.int y11_5]) (rest := []) ⟨hx, hb, hml, hown, hts⟩ (c_X0_statueAt (l := l) M y11_0 y11_5 ky11_0 h14) (cwV 1 hts gX0_woodOf_X0_statueAt rfl rfl rfl hdV_X0_statueAt ⟨Nat.le_of_ble_eq_true rfl, Nat.le_of_ble_eq_true rfl⟩) (pV (T := TX0) hP hK hD hT hG hS ky11_0 (by decide) rfl) rfl rfl hl.1 rfl (lv_room (Nat.le_of_ble_eq_true rfl)) dX0_woodOf_38 ⟨Nat.zero_le _, Nat.zero_le _⟩) hS (fun H locs hq14 hP hD hT hS => ?_)
          rcases hN14 : z14 with _ | b14
          · replace h := oc_n hN14 h
            show W _ _ _ _ _ _ _ _ _ _ _ _ _ _ _ (F0 _ _ _ (.null :: []))
            refine lv_astoreN (lv' := [(6, .null), (0, .ref (ad y11_0)), (1, .ref (ad y11_1)), (3, .int y11_3), (4, .int y11_4), (5, .int y11_5)]) hx hb dX0_woodOf_41 hl (by decide) rfl (fun ls hl => ?_)
            refine lv_aloadN hx hb dX0_woodOf_43 (lv_at hl 0 rfl) ?_
            refine lv_ifnullN (tgt := 79) hx hb dX0_woodOf_45 rfl ?_
            refine lv_aloadN hx hb dX0_woodOf_79 (lv_at hl 0 rfl) ?_
            refine lv_ifnullN (tgt := 109) hx hb dX0_woodOf_81 rfl ?_
            refine lv_iinc (v := y11_5 + 1) (lv' := [(5, .int (y11_5 + 1)), (6, .null), (0, .ref (ad y11_0)), (1, .ref (ad y11_1)), (3, .int y11_3), (4, .int y11_4)]) hx hb dX0_woodOf_109 hl (k := 5) rfl rfl (by decide) rfl (fun ls hl => ?_)
            refine lv_goto (tgt := 25) hx hb dX0_woodOf_112 rfl ?_
            exact ih11 y11_0 y11_1 y11_3 y11_4 (y11_5 + 1) ky11_0 ky11_1 _ _ h hP hD hT hS ls (lv_sub hl [2, 3, 4, 5, 0] rfl)
          · replace h := oc_s hN14 h
            have kb14 := hq14 _ hN14
            show W _ _ _ _ _ _ _ _ _ _ _ _ _ _ _ (F0 _ _ _ (.ref (ad b14) :: []))
            refine lv_astore (lv' := [(6, .ref (ad b14)), (0, .ref (ad y11_0)), (1, .ref (ad y11_1)), (3, .int y11_3), (4, .int y11_4), (5, .int y11_5)]) hx hb dX0_woodOf_41 hl (by decide) rfl (fun ls hl => ?_)
            refine lv_aload hx hb dX0_woodOf_43 (lv_at hl 0 rfl) ?_
            refine lv_ifnull hx hb dX0_woodOf_45 ?_
            refine lv_aload hx hb dX0_woodOf_48 (lv_at hl 0 rfl) ?_
            obtain ⟨z15, h15, h⟩ := ob_some h
            refine k_z (va_runV (As := []) (rest := []) ⟨hx, hb, hml, hown, hts⟩ (c_X5_isLying (l := l) M b14 kb14 h15) (cwV 0 hts gX0_woodOf_X5_isLying rfl rfl rfl hdV_X5_isLying ⟨Nat.le_of_ble_eq_true rfl, Nat.le_of_ble_eq_true rfl⟩) (pV (T := TX5) hP hK hD hT hG hS kb14 (by decide) rfl) rfl rfl hl.1 rfl (lv_room (Nat.le_of_ble_eq_true rfl)) dX0_woodOf_50 ⟨Nat.zero_le _, Nat.zero_le _⟩) hS (fun H locs hz15 hP hD hT hS => ?_)
            refine lv_if_eq (tgt := 79) hx hb dX0_woodOf_53 rfl (fun c16 => ?_) (fun c16 => ?_)
            · replace h := ite_t c16 h
              refine lv_aload hx hb dX0_woodOf_79 (lv_at hl 0 rfl) ?_
              refine lv_ifnull hx hb dX0_woodOf_81 ?_
              refine lv_aload hx hb dX0_woodOf_84 (lv_at hl 0 rfl) ?_
              refine r_get (T := TX5) (v := .int (gI M b14 3)) hx hb hts in5 hown hK hP kb14 (by decide) rfl 3 (by decide) (hts (.fieldLink RX0 144 "StoneWalk$Stone" "sort" "I") (List.mem_of_getElem? (i := 4) (by decide +kernel))) rfl (t := 0) rfl rfl dX0_woodOf_86 ?_
              refine lv_iconst (v := 3) hx hb dX0_woodOf_89 rfl ?_
              refine lv_icmp_ne (tgt := 109) hx hb dX0_woodOf_90 rfl (fun c17 => ?_) (fun c17 => ?_)
              · replace h := ite_f c17 h
                refine lv_iinc (v := y11_5 + 1) (lv' := [(5, .int (y11_5 + 1)), (6, .ref (ad b14)), (0, .ref (ad y11_0)), (1, .ref (ad y11_1)), (3, .int y11_3), (4, .int y11_4)]) hx hb dX0_woodOf_109 hl (k := 5) rfl rfl (by decide) rfl (fun ls hl => ?_)
                refine lv_goto (tgt := 25) hx hb dX0_woodOf_112 rfl ?_
                exact ih11 y11_0 y11_1 y11_3 y11_4 (y11_5 + 1) ky11_0 ky11_1 _ _ h hP hD hT hS ls (lv_sub hl [2, 3, 4, 5, 0] rfl)
              · replace h := ite_t c17 h
                refine lv_iload hx hb dX0_woodOf_93 (lv_at hl 4 rfl) ?_
                refine lv_aload_n hx hb dX0_woodOf_95 rfl (lv_at hl 2 rfl) ?_
                refine lv_aload hx hb dX0_woodOf_96 (lv_at hl 0 rfl) ?_
                refine r_get (T := TX5) (v := .int (gI M b14 0)) hx hb hts in5 hown hK hP kb14 (by decide) rfl 0 (by decide) (hts (.fieldLink RX0 86 "StoneWalk$Stone" "tons" "I") (List.mem_of_getElem? (i := 2) (by decide +kernel))) rfl (t := 0) rfl rfl dX0_woodOf_98 ?_
                obtain ⟨z18, h18, h⟩ := ob_some h
                refine k_i (va_runV (As := [.int (gI M b14 0)]) (rest := [.int y11_4]) ⟨hx, hb, hml, hown, hts⟩ (c_X10_woodFor (l := l) M y11_1 (gI M b14 0) ky11_1 h18) (cwV 1 hts gX0_woodOf_X10_woodFor rfl rfl rfl hdV_X10_woodFor ⟨Nat.le_of_ble_eq_true rfl, Nat.le_of_ble_eq_true rfl⟩) (pV (T := TX10) hP hK hD hT hG hS ky11_1 (by decide) rfl) rfl rfl hl.1 rfl (lv_room (Nat.le_of_ble_eq_true rfl)) dX0_woodOf_101 ⟨Nat.zero_le _, Nat.zero_le _⟩) hS (fun H locs hP hD hT hS => ?_)
                refine lv_iload_n hx hb dX0_woodOf_104 rfl (lv_at hl 3 rfl) ?_
                refine lv_imul hx hb dX0_woodOf_105 ?_
                refine lv_iadd hx hb dX0_woodOf_106 ?_
                refine lv_istore (lv' := [(4, .int (y11_4 + (z18 * y11_3))), (6, .ref (ad b14)), (0, .ref (ad y11_0)), (1, .ref (ad y11_1)), (3, .int y11_3), (5, .int y11_5)]) hx hb dX0_woodOf_107 hl (by decide) rfl (fun ls hl => ?_)
                refine lv_iinc (v := y11_5 + 1) (lv' := [(5, .int (y11_5 + 1)), (4, .int (y11_4 + (z18 * y11_3))), (6, .ref (ad b14)), (0, .ref (ad y11_0)), (1, .ref (ad y11_1)), (3, .int y11_3)]) hx hb dX0_woodOf_109 hl (k := 5) rfl rfl (by decide) rfl (fun ls hl => ?_)
                refine lv_goto (tgt := 25) hx hb dX0_woodOf_112 rfl ?_
                exact ih11 y11_0 y11_1 y11_3 (y11_4 + (z18 * y11_3)) (y11_5 + 1) ky11_0 ky11_1 _ _ h hP hD hT hS ls (lv_sub hl [3, 4, 5, 1, 0] rfl)
            · replace h := ite_f c16 h
              refine lv_iload hx hb dX0_woodOf_56 (lv_at hl 4 rfl) ?_
              refine lv_aload_n hx hb dX0_woodOf_58 rfl (lv_at hl 2 rfl) ?_
              refine lv_aload hx hb dX0_woodOf_59 (lv_at hl 0 rfl) ?_
              refine r_get (T := TX5) (v := .int (gI M b14 0)) hx hb hts in5 hown hK hP kb14 (by decide) rfl 0 (by decide) (hts (.fieldLink RX0 86 "StoneWalk$Stone" "tons" "I") (List.mem_of_getElem? (i := 2) (by decide +kernel))) rfl (t := 0) rfl rfl dX0_woodOf_61 ?_
              obtain ⟨z19, h19, h⟩ := ob_some h
              refine k_i (va_runV (As := [.int (gI M b14 0)]) (rest := [.int y11_4]) ⟨hx, hb, hml, hown, hts⟩ (c_X10_woodFor (l := l) M y11_1 (gI M b14 0) ky11_1 h19) (cwV 1 hts gX0_woodOf_X10_woodFor rfl rfl rfl hdV_X10_woodFor ⟨Nat.le_of_ble_eq_true rfl, Nat.le_of_ble_eq_true rfl⟩) (pV (T := TX10) hP hK hD hT hG hS ky11_1 (by decide) rfl) rfl rfl hl.1 rfl (lv_room (Nat.le_of_ble_eq_true rfl)) dX0_woodOf_64 ⟨Nat.zero_le _, Nat.zero_le _⟩) hS (fun H locs hP hD hT hS => ?_)
              refine lv_aload hx hb dX0_woodOf_67 (lv_at hl 0 rfl) ?_
              refine r_get (T := TX5) (v := .int (gI M b14 6)) hx hb hts in5 hown hK hP kb14 (by decide) rfl 6 (by decide) (hts (.fieldLink RX0 206 "StoneWalk$Stone" "place" "I") (List.mem_of_getElem? (i := 3) (by decide +kernel))) rfl (t := 0) rfl rfl dX0_woodOf_69 ?_
              refine lv_imul hx hb dX0_woodOf_72 ?_
              refine lv_iadd hx hb dX0_woodOf_73 ?_
              refine lv_istore (lv' := [(4, .int (y11_4 + (z19 * (gI M b14 6)))), (6, .ref (ad b14)), (0, .ref (ad y11_0)), (1, .ref (ad y11_1)), (3, .int y11_3), (5, .int y11_5)]) hx hb dX0_woodOf_74 hl (by decide) rfl (fun ls hl => ?_)
              refine lv_goto (tgt := 109) hx hb dX0_woodOf_76 rfl ?_
              refine lv_iinc (v := y11_5 + 1) (lv' := [(5, .int (y11_5 + 1)), (4, .int (y11_4 + (z19 * (gI M b14 6)))), (6, .ref (ad b14)), (0, .ref (ad y11_0)), (1, .ref (ad y11_1)), (3, .int y11_3)]) hx hb dX0_woodOf_109 hl (k := 5) rfl rfl (by decide) rfl (fun ls hl => ?_)
              refine lv_goto (tgt := 25) hx hb dX0_woodOf_112 rfl ?_
              exact ih11 y11_0 y11_1 y11_3 (y11_4 + (z19 * (gI M b14 6))) (y11_5 + 1) ky11_0 ky11_1 _ _ h hP hD hT hS ls (lv_sub hl [3, 4, 5, 1, 0] rfl)
    exact L11 FU a0 a1 (gI M b1 1) 0 0 k0 k1 _ _ h hP hD hT hS ls (lv_sub hl [4, 5, 2, 1, 0] rfl)
set_option maxHeartbeats 4000000 in
set_option maxRecDepth 100000 in
theorem c_X6_gain {l : Launch} {D : va_G} {ad : Nat → Nat} {cy : Nat → ClassId} {A : Nat → Prop} {g : CG} {q : SE} (M : MM) (a0 : Nat) (x1 : Int32) (x2 : Int32) (k0 : ok g a0 6 0) {Z : Int32} (h : f_X6_gain M a0 x1 x2 = some Z) : Met l yX6_gain wsX6_gain ({ frames := 0, cells := 0, slots := 0, locals := 0 }) (va_Pc [.ref (ad a0), .int x1, .int x2] (Wd D ad cy A g q M)) (va_Qi (fun r u => r = Z ∧ u = M) (Wd D ad cy A g q) A) 0 0 A := by
  refine Met.ofW (cc := cX6_gain) (maxL := 4) (ret := (some .int)) (by decide) rfl ?_
  intro p e s m args below meth c s₁ B hml hv
  obtain ⟨rfl, hP, hK, hD, hT, hG⟩ := hv
  have hx := B.exec
  have hb := B.bytes
  have hr := B.returns
  have hts := atoms_spec (ws := wsX6_gain) B.pre
  have hown : s.vm.findClass RX6 = some m.cls := findClass_of_methodNamed B.named
  have hlocks := B.notSynchronized
  have in6 : ∀ w ∈ u_ws RX6 TX6 5, w ∈ wsX6_gain := fun w h => List.mem_cons_of_mem _ (List.mem_append_right _ h)
  have hS : va_S A s.heap s.heap [] := va_S.rf
  have hl := lv_entry ([.ref (ad a0), .int x1, .int x2]) (n := 4) (Nat.le_of_ble_eq_true rfl)
  rw [lg_entry_eq]
  generalize (lg_sl ([.ref (ad a0), .int x1, .int x2]) ++ List.replicate (4 - (lg_sl ([.ref (ad a0), .int x1, .int x2])).length) Slot.unset).toArray = ls at hl ⊢
  have hl : lv_has ls 4 [(0, .ref (ad a0)), (1, .int x1), (2, .int x2)] := hl
  unfold f_X6_gain at h
  refine lv_iload_n hx hb dX6_gain_0 rfl (lv_at hl 1 rfl) ?_
  refine lv_iload_n hx hb dX6_gain_1 rfl (lv_at hl 2 rfl) ?_
  refine lv_imul hx hb dX6_gain_2 ?_
  refine lv_bipush (v := 100) hx hb dX6_gain_3 rfl ?_
  refine lv_idiv hx hb dX6_gain_5 (by decide) ?_
  refine lv_istore_n (lv' := [(3, .int ((x1 * x2) / 100)), (0, .ref (ad a0)), (1, .int x1), (2, .int x2)]) hx hb dX6_gain_6 rfl hl (by decide) rfl (fun ls hl => ?_)
  refine lv_aload_n hx hb dX6_gain_7 rfl (lv_at hl 1 rfl) ?_
  refine r_get (T := TX6) (v := .int (gI M a0 1)) hx hb hts in6 hown hK hP k0 (by decide) rfl 1 (by decide) (hts (.fieldLink RX6 31 "StoneWalk$Story" "cause" "I") (List.mem_of_getElem? (i := 1) (by decide +kernel))) rfl (t := 0) rfl rfl dX6_gain_8 ?_
  refine lv_iconst (v := 1) hx hb dX6_gain_11 rfl ?_
  refine lv_icmp_ne (tgt := 30) hx hb dX6_gain_12 rfl (fun c1 => ?_) (fun c1 => ?_)
  · replace h := ite_f c1 h
    refine lv_iload_n hx hb dX6_gain_30 rfl (lv_at hl 0 rfl) ?_
    exact r_iret hx hb hr hlocks hP hK hD hT hG hS (Option.some.inj h) rfl dX6_gain_31
  · replace h := ite_t c1 h
    refine lv_iload_n hx hb dX6_gain_15 rfl (lv_at hl 0 rfl) ?_
    refine lv_bipush (v := 100) hx hb dX6_gain_16 rfl ?_
    refine lv_aload_n hx hb dX6_gain_18 rfl (lv_at hl 1 rfl) ?_
    refine r_get (T := TX6) (v := .int (gI M a0 2)) hx hb hts in6 hown hK hP k0 (by decide) rfl 2 (by decide) (hts (.fieldLink RX6 35 "StoneWalk$Story" "share" "I") (List.mem_of_getElem? (i := 2) (by decide +kernel))) rfl (t := 0) rfl rfl dX6_gain_19 ?_
    refine lv_isub hx hb dX6_gain_22 ?_
    refine lv_imul hx hb dX6_gain_23 ?_
    refine lv_bipush (v := 100) hx hb dX6_gain_24 rfl ?_
    refine lv_idiv hx hb dX6_gain_26 (by decide) ?_
    refine lv_goto (tgt := 31) hx hb dX6_gain_27 rfl ?_
    exact r_iret hx hb hr hlocks hP hK hD hT hG hS (Option.some.inj h) rfl dX6_gain_31
set_option maxHeartbeats 4000000 in
set_option maxRecDepth 100000 in
theorem c_X6_loss {l : Launch} {D : va_G} {ad : Nat → Nat} {cy : Nat → ClassId} {A : Nat → Prop} {g : CG} {q : SE} (M : MM) (a0 : Nat) (x1 : Int32) (x2 : Int32) (x3 : Int32) (k0 : ok g a0 6 0) {Z : Int32} (h : f_X6_loss M a0 x1 x2 x3 = some Z) : Met l yX6_loss wsX6_loss ({ frames := 0, cells := 0, slots := 0, locals := 0 }) (va_Pc [.ref (ad a0), .int x1, .int x2, .int x3] (Wd D ad cy A g q M)) (va_Qi (fun r u => r = Z ∧ u = M) (Wd D ad cy A g q) A) 0 0 A := by
  refine Met.ofW (cc := cX6_loss) (maxL := 4) (ret := (some .int)) (by decide) rfl ?_
  intro p e s m args below meth c s₁ B hml hv
  obtain ⟨rfl, hP, hK, hD, hT, hG⟩ := hv
  have hx := B.exec
  have hb := B.bytes
  have hr := B.returns
  have hts := atoms_spec (ws := wsX6_loss) B.pre
  have hown : s.vm.findClass RX6 = some m.cls := findClass_of_methodNamed B.named
  have hlocks := B.notSynchronized
  have in6 : ∀ w ∈ u_ws RX6 TX6 5, w ∈ wsX6_loss := fun w h => List.mem_cons_of_mem _ (List.mem_append_right _ h)
  have hS : va_S A s.heap s.heap [] := va_S.rf
  have hl := lv_entry ([.ref (ad a0), .int x1, .int x2, .int x3]) (n := 4) (Nat.le_of_ble_eq_true rfl)
  rw [lg_entry_eq]
  generalize (lg_sl ([.ref (ad a0), .int x1, .int x2, .int x3]) ++ List.replicate (4 - (lg_sl ([.ref (ad a0), .int x1, .int x2, .int x3])).length) Slot.unset).toArray = ls at hl ⊢
  have hl : lv_has ls 4 [(0, .ref (ad a0)), (1, .int x1), (2, .int x2), (3, .int x3)] := hl
  unfold f_X6_loss at h
  refine lv_aload_n hx hb dX6_loss_0 rfl (lv_at hl 0 rfl) ?_
  refine r_get (T := TX6) (v := .int (gI M a0 1)) hx hb hts in6 hown hK hP k0 (by decide) rfl 1 (by decide) (hts (.fieldLink RX6 31 "StoneWalk$Story" "cause" "I") (List.mem_of_getElem? (i := 1) (by decide +kernel))) rfl (t := 0) rfl rfl dX6_loss_1 ?_
  refine lv_if_ne (tgt := 17) hx hb dX6_loss_4 rfl (fun c1 => ?_) (fun c1 => ?_)
  · replace h := ite_f c1 h
    refine lv_aload_n hx hb dX6_loss_17 rfl (lv_at hl 0 rfl) ?_
    refine r_get (T := TX6) (v := .int (gI M a0 1)) hx hb hts in6 hown hK hP k0 (by decide) rfl 1 (by decide) (hts (.fieldLink RX6 31 "StoneWalk$Story" "cause" "I") (List.mem_of_getElem? (i := 1) (by decide +kernel))) rfl (t := 0) rfl rfl dX6_loss_18 ?_
    refine lv_iconst (v := 2) hx hb dX6_loss_21 rfl ?_
    refine lv_icmp_ne (tgt := 51) hx hb dX6_loss_22 rfl (fun c2 => ?_) (fun c2 => ?_)
    · replace h := ite_f c2 h
      refine lv_iconst (v := 0) hx hb dX6_loss_51 rfl ?_
      exact r_iret hx hb hr hlocks hP hK hD hT hG hS (Option.some.inj h) rfl dX6_loss_52
    · replace h := ite_t c2 h
      refine lv_aload_n hx hb dX6_loss_25 rfl (lv_at hl 0 rfl) ?_
      refine r_get (T := TX6) (v := .int (gI M a0 3)) hx hb hts in6 hown hK hP k0 (by decide) rfl 3 (by decide) (hts (.fieldLink RX6 38 "StoneWalk$Story" "every" "I") (List.mem_of_getElem? (i := 3) (by decide +kernel))) rfl (t := 0) rfl rfl dX6_loss_26 ?_
      refine lv_if_le (tgt := 51) hx hb dX6_loss_29 rfl (fun c3 => ?_) (fun c3 => ?_)
      · replace h := ite_t c3 h
        refine lv_iconst (v := 0) hx hb dX6_loss_51 rfl ?_
        exact r_iret hx hb hr hlocks hP hK hD hT hG hS (Option.some.inj h) rfl dX6_loss_52
      · replace h := ite_f c3 h
        refine lv_iload_n hx hb dX6_loss_32 rfl (lv_at hl 3 rfl) ?_
        refine lv_aload_n hx hb dX6_loss_33 rfl (lv_at hl 0 rfl) ?_
        refine r_get (T := TX6) (v := .int (gI M a0 3)) hx hb hts in6 hown hK hP k0 (by decide) rfl 3 (by decide) (hts (.fieldLink RX6 38 "StoneWalk$Story" "every" "I") (List.mem_of_getElem? (i := 3) (by decide +kernel))) rfl (t := 0) rfl rfl dX6_loss_34 ?_
        obtain ⟨hn4, h⟩ := chk_some h
        refine lv_irem hx hb dX6_loss_37 hn4 ?_
        refine lv_if_ne (tgt := 51) hx hb dX6_loss_38 rfl (fun c5 => ?_) (fun c5 => ?_)
        · replace h := ite_f c5 h
          refine lv_iconst (v := 0) hx hb dX6_loss_51 rfl ?_
          exact r_iret hx hb hr hlocks hP hK hD hT hG hS (Option.some.inj h) rfl dX6_loss_52
        · replace h := ite_t c5 h
          refine lv_iload_n hx hb dX6_loss_41 rfl (lv_at hl 1 rfl) ?_
          refine lv_aload_n hx hb dX6_loss_42 rfl (lv_at hl 0 rfl) ?_
          refine r_get (T := TX6) (v := .int (gI M a0 2)) hx hb hts in6 hown hK hP k0 (by decide) rfl 2 (by decide) (hts (.fieldLink RX6 35 "StoneWalk$Story" "share" "I") (List.mem_of_getElem? (i := 2) (by decide +kernel))) rfl (t := 0) rfl rfl dX6_loss_43 ?_
          refine lv_imul hx hb dX6_loss_46 ?_
          refine lv_bipush (v := 100) hx hb dX6_loss_47 rfl ?_
          refine lv_idiv hx hb dX6_loss_49 (by decide) ?_
          exact r_iret hx hb hr hlocks hP hK hD hT hG hS (Option.some.inj h) rfl dX6_loss_50
  · replace h := ite_t c1 h
    refine lv_aload_n hx hb dX6_loss_7 rfl (lv_at hl 0 rfl) ?_
    refine r_get (T := TX6) (v := .int (gI M a0 2)) hx hb hts in6 hown hK hP k0 (by decide) rfl 2 (by decide) (hts (.fieldLink RX6 35 "StoneWalk$Story" "share" "I") (List.mem_of_getElem? (i := 2) (by decide +kernel))) rfl (t := 0) rfl rfl dX6_loss_8 ?_
    refine lv_iload_n hx hb dX6_loss_11 rfl (lv_at hl 2 rfl) ?_
    refine lv_imul hx hb dX6_loss_12 ?_
    refine lv_bipush (v := 100) hx hb dX6_loss_13 rfl ?_
    refine lv_idiv hx hb dX6_loss_15 (by decide) ?_
    exact r_iret hx hb hr hlocks hP hK hD hT hG hS (Option.some.inj h) rfl dX6_loss_16
set_option maxHeartbeats 4000000 in
set_option maxRecDepth 100000 in
theorem c_X6_grow {l : Launch} {D : va_G} {ad : Nat → Nat} {cy : Nat → ClassId} {A : Nat → Prop} {g : CG} {q : SE} (M : MM) (a0 : Nat) (x1 : Int32) (x2 : Int32) (x3 : Int32) (k0 : ok g a0 6 0) {Z : MM} (h : f_X6_grow M a0 x1 x2 x3 = some Z) : Met l yX6_grow wsX6_grow ({ frames := 1, cells := 0, slots := 0, locals := 23 }) (va_Pc [.ref (ad a0), .int x1, .int x2, .int x3] (Wd D ad cy A g q M)) (va_Qv (fun u => u = Z) (Wd D ad cy A g q) A) 0 0 A := by
  refine Met.ofW (cc := cX6_grow) (maxL := 7) (ret := none) (by decide) rfl ?_
  intro p e s m args below meth c s₁ B hml hv
  obtain ⟨rfl, hP, hK, hD, hT, hG⟩ := hv
  have hx := B.exec
  have hb := B.bytes
  have hr := B.returns
  have hts := atoms_spec (ws := wsX6_grow) B.pre
  have hown : s.vm.findClass RX6 = some m.cls := findClass_of_methodNamed B.named
  have hlocks := B.notSynchronized
  have in6 : ∀ w ∈ u_ws RX6 TX6 5, w ∈ wsX6_grow := fun w h => List.mem_cons_of_mem _ (List.mem_append_right _ h)
  have hS : va_S A s.heap s.heap [] := va_S.rf
  have hl := lv_entry ([.ref (ad a0), .int x1, .int x2, .int x3]) (n := 7) (Nat.le_of_ble_eq_true rfl)
  rw [lg_entry_eq]
  generalize (lg_sl ([.ref (ad a0), .int x1, .int x2, .int x3]) ++ List.replicate (7 - (lg_sl ([.ref (ad a0), .int x1, .int x2, .int x3])).length) Slot.unset).toArray = ls at hl ⊢
  have hl : lv_has ls 7 [(0, .ref (ad a0)), (1, .int x1), (2, .int x2), (3, .int x3)] := hl
  unfold f_X6_grow at h
  refine lv_aload_n hx hb dX6_grow_0 rfl (lv_at hl 0 rfl) ?_
  rcases hN1 : gR M a0 4 with _ | b1
  · exact absurd (oc_n hN1 h) (by simp)
  replace h := oc_s hN1 h
  have kb1 := hT.f k0 (k := 4) (t := 15) (n := 100) rfl hN1
  refine r_get (T := TX6) (v := .ref (ad b1)) hx hb hts in6 hown hK hP k0 (by decide) rfl 4 (by decide) (hts (.fieldLink RX6 9 "StoneWalk$Story" "counts" "[I") (List.mem_of_getElem? (i := 1) (by decide +kernel))) rfl (t := 2) rfl (by show va_rf _ = _; rw [hN1]; rfl) dX6_grow_1 ?_
  refine lv_iconst (v := 0) hx hb dX6_grow_4 rfl ?_
  refine lv_iload_n hx hb dX6_grow_5 rfl (lv_at hl 1 rfl) ?_
  refine r_iast hx hb hK hP hD hT hS kb1 (by decide) dX6_grow_6 (fun H locs hP hD hT hS => ?_)
  refine lv_iconst (v := 1) hx hb dX6_grow_7 rfl ?_
  refine lv_istore (lv' := [(4, .int 1), (0, .ref (ad a0)), (1, .int x1), (2, .int x2), (3, .int x3)]) hx hb dX6_grow_8 hl (by decide) rfl (fun ls hl => ?_)
  have L2 : ∀ n2 : Nat, ∀ (M2 : MM) (y2_0 : Nat) (y2_2 : Int32) (y2_3 : Int32) (y2_4 : Int32) (ky2_0 : ok g y2_0 6 0) (H : Heap) (locs : List Loc), f_X6_grow_L10 n2 M2 y2_0 y2_2 y2_3 y2_4 = some Z → va_P D vwCl (wd ad cy g M2) H → va_D A (wd ad cy g M2) → WT g M2 → va_S A s.heap H locs → ∀ (ls : Array Slot), lv_has ls 7 [(0, .ref (ad y2_0)), (2, .int y2_2), (3, .int y2_3), (4, .int y2_4)] → W p l e ((headSpec wsX6_grow ({ frames := 1, cells := 0, slots := 0, locals := 23 })).room) s m (([.ref (ad a0), .int x1, .int x2, .int x3] : List Value).toArray) below meth c H locs 0 0 (MQ below (va_Qv (fun u => u = Z) (Wd D ad cy A g q) A) ([.ref (ad a0), .int x1, .int x2, .int x3]).toArray s 0 0 A) (F0 m 10 ls []) := by
    intro n2
    induction n2 with
    | zero => intro M2 y2_0 y2_2 y2_3 y2_4 ky2_0 H locs h; exact absurd h (by simp [f_X6_grow_L10])
    | succ n2 ih2 =>
      intro M2 y2_0 y2_2 y2_3 y2_4 ky2_0 H locs h hP hD hT hS ls hl
      rw [f_X6_grow_L10] at h
      refine lv_iload hx hb dX6_grow_10 (lv_at hl 3 rfl) ?_
      refine lv_aload_n hx hb dX6_grow_12 rfl (lv_at hl 0 rfl) ?_
      rcases hN3 : gR M2 y2_0 4 with _ | b3
      · exact absurd (oc_n hN3 h) (by simp)
      replace h := oc_s hN3 h
      have kb3 := hT.f ky2_0 (k := 4) (t := 15) (n := 100) rfl hN3
      refine r_get (T := TX6) (v := .ref (ad b3)) hx hb hts in6 hown hK hP ky2_0 (by decide) rfl 4 (by decide) (hts (.fieldLink RX6 9 "StoneWalk$Story" "counts" "[I") (List.mem_of_getElem? (i := 1) (by decide +kernel))) rfl (t := 2) rfl (by show va_rf _ = _; rw [hN3]; rfl) dX6_grow_13 ?_
      refine r_alen (t0 := 1) (v := 100) hx hb hK hP kb3 (by decide) rfl rfl dX6_grow_16 ?_
      refine lv_icmp_ge (tgt := 86) hx hb dX6_grow_17 rfl (fun c4 => ?_) (fun c4 => ?_)
      · replace h := ite_t c4 h
        exact r_vret hx hb hr hlocks hP hK hD hT hG hS (Option.some.inj h) dX6_grow_86
      · replace h := ite_f c4 h
        refine lv_aload_n hx hb dX6_grow_20 rfl (lv_at hl 0 rfl) ?_
        rcases hN5 : gR M2 y2_0 4 with _ | b5
        · exact absurd (oc_n hN5 h) (by simp)
        replace h := oc_s hN5 h
        have kb5 := hT.f ky2_0 (k := 4) (t := 15) (n := 100) rfl hN5
        refine r_get (T := TX6) (v := .ref (ad b5)) hx hb hts in6 hown hK hP ky2_0 (by decide) rfl 4 (by decide) (hts (.fieldLink RX6 9 "StoneWalk$Story" "counts" "[I") (List.mem_of_getElem? (i := 1) (by decide +kernel))) rfl (t := 2) rfl (by show va_rf _ = _; rw [hN5]; rfl) dX6_grow_21 ?_
        refine lv_iload hx hb dX6_grow_24 (lv_at hl 3 rfl) ?_
        refine lv_iconst (v := 1) hx hb dX6_grow_26 rfl ?_
        refine lv_isub hx hb dX6_grow_27 ?_
        obtain ⟨hn6, h⟩ := chk_some h
        refine r_iald hx hb hK hP kb5 hn6 dX6_grow_28 ?_
        refine lv_istore (lv' := [(5, .int (gI M2 b5 (ix (y2_4 - 1)))), (0, .ref (ad y2_0)), (2, .int y2_2), (3, .int y2_3), (4, .int y2_4)]) hx hb dX6_grow_29 hl (by decide) rfl (fun ls hl => ?_)
        refine lv_iload hx hb dX6_grow_31 (lv_at hl 0 rfl) ?_
        refine lv_aload_n hx hb dX6_grow_33 rfl (lv_at hl 1 rfl) ?_
        refine lv_iload hx hb dX6_grow_34 (lv_at hl 0 rfl) ?_
        refine lv_iload_n hx hb dX6_grow_36 rfl (lv_at hl 2 rfl) ?_
        obtain ⟨z7, h7, h⟩ := ob_some h
        refine k_i (va_runV (As := [.int (gI M2 b5 (ix (y2_4 - 1))), .int y2_2]) (rest := [.int (gI M2 b5 (ix (y2_4 - 1)))]) ⟨hx, hb, hml, hown, hts⟩ (c_X6_gain (l := l) M2 y2_0 (gI M2 b5 (ix (y2_4 - 1))) y2_2 ky2_0 h7) (cwV 2 hts gX6_grow_X6_gain rfl rfl rfl hdV_X6_gain ⟨Nat.le_of_ble_eq_true rfl, Nat.le_of_ble_eq_true rfl⟩) (pV (T := TX6) hP hK hD hT hG hS ky2_0 (by decide) rfl) rfl rfl hl.1 rfl (lv_room (Nat.le_of_ble_eq_true rfl)) dX6_grow_37 ⟨Nat.zero_le _, Nat.zero_le _⟩) hS (fun H locs hP hD hT hS => ?_)
        refine lv_iadd hx hb dX6_grow_40 ?_
        refine lv_iload hx hb dX6_grow_41 (lv_at hl 0 rfl) ?_
        refine lv_iconst (v := 2) hx hb dX6_grow_43 rfl ?_
        refine lv_imul hx hb dX6_grow_44 ?_
        refine lv_bipush (v := 100) hx hb dX6_grow_45 rfl ?_
        refine lv_idiv hx hb dX6_grow_47 (by decide) ?_
        refine lv_isub hx hb dX6_grow_48 ?_
        refine lv_aload_n hx hb dX6_grow_49 rfl (lv_at hl 1 rfl) ?_
        refine lv_iload hx hb dX6_grow_50 (lv_at hl 0 rfl) ?_
        refine lv_iload_n hx hb dX6_grow_52 rfl (lv_at hl 3 rfl) ?_
        refine lv_iload hx hb dX6_grow_53 (lv_at hl 4 rfl) ?_
        obtain ⟨z8, h8, h⟩ := ob_some h
        refine k_i (va_runV (As := [.int (gI M2 b5 (ix (y2_4 - 1))), .int y2_3, .int y2_4]) (rest := [.int (((gI M2 b5 (ix (y2_4 - 1))) + z7) - (((gI M2 b5 (ix (y2_4 - 1))) * 2) / 100))]) ⟨hx, hb, hml, hown, hts⟩ (c_X6_loss (l := l) M2 y2_0 (gI M2 b5 (ix (y2_4 - 1))) y2_3 y2_4 ky2_0 h8) (cwV 3 hts gX6_grow_X6_loss rfl rfl rfl hdV_X6_loss ⟨Nat.le_of_ble_eq_true rfl, Nat.le_of_ble_eq_true rfl⟩) (pV (T := TX6) hP hK hD hT hG hS ky2_0 (by decide) rfl) rfl rfl hl.1 rfl (lv_room (Nat.le_of_ble_eq_true rfl)) dX6_grow_55 ⟨Nat.zero_le _, Nat.zero_le _⟩) hS (fun H locs hP hD hT hS => ?_)
        refine lv_isub hx hb dX6_grow_58 ?_
        refine lv_istore (lv' := [(6, .int ((((gI M2 b5 (ix (y2_4 - 1))) + z7) - (((gI M2 b5 (ix (y2_4 - 1))) * 2) / 100)) - z8)), (5, .int (gI M2 b5 (ix (y2_4 - 1)))), (0, .ref (ad y2_0)), (2, .int y2_2), (3, .int y2_3), (4, .int y2_4)]) hx hb dX6_grow_59 hl (by decide) rfl (fun ls hl => ?_)
        refine lv_aload_n hx hb dX6_grow_61 rfl (lv_at hl 2 rfl) ?_
        rcases hN9 : gR M2 y2_0 4 with _ | b9
        · exact absurd (oc_n hN9 h) (by simp)
        replace h := oc_s hN9 h
        have kb9 := hT.f ky2_0 (k := 4) (t := 15) (n := 100) rfl hN9
        refine r_get (T := TX6) (v := .ref (ad b9)) hx hb hts in6 hown hK hP ky2_0 (by decide) rfl 4 (by decide) (hts (.fieldLink RX6 9 "StoneWalk$Story" "counts" "[I") (List.mem_of_getElem? (i := 1) (by decide +kernel))) rfl (t := 2) rfl (by show va_rf _ = _; rw [hN9]; rfl) dX6_grow_62 ?_
        refine lv_iload hx hb dX6_grow_65 (lv_at hl 5 rfl) ?_
        refine lv_iconst (v := 0) hx hb dX6_grow_67 rfl ?_
        refine lv_iload hx hb dX6_grow_68 (lv_at hl 0 rfl) ?_
        refine lv_sipush (v := 9999) hx hb dX6_grow_70 rfl ?_
        refine va_mmin hx hb (hml.trans hl.1.symm) hown (hts (.methodLink RX6 23 Lib.Math.min.name) (List.mem_of_getElem? (i := 2) (by decide +kernel))) (hts (.static Lib.Math.min.name) (List.mem_of_getElem? (i := 3) (by decide +kernel))) (hts (.initialized "java/lang/Math") (List.mem_of_getElem? (i := 4) (by decide +kernel))) (hts (.code Lib.Math.min.name Lib.Math.min.code 2 (some .int)) (List.mem_of_getElem? (i := 5) (by decide +kernel))) (Nat.le_of_ble_eq_true rfl) (Nat.le_of_ble_eq_true rfl) (Nat.zero_le _) (Nat.zero_le _) dX6_grow_73 ?_
        refine va_mmax hx hb (hml.trans hl.1.symm) hown (hts (.methodLink RX6 28 Lib.Math.max.name) (List.mem_of_getElem? (i := 6) (by decide +kernel))) (hts (.static Lib.Math.max.name) (List.mem_of_getElem? (i := 7) (by decide +kernel))) (hts (.initialized "java/lang/Math") (List.mem_of_getElem? (i := 4) (by decide +kernel))) (hts (.code Lib.Math.max.name Lib.Math.max.code 2 (some .int)) (List.mem_of_getElem? (i := 8) (by decide +kernel))) (Nat.le_of_ble_eq_true rfl) (Nat.le_of_ble_eq_true rfl) (Nat.zero_le _) (Nat.zero_le _) dX6_grow_76 ?_
        obtain ⟨hn10, h⟩ := chk_some h
        refine r_iast hx hb hK hP hD hT hS kb9 hn10 dX6_grow_79 (fun H locs hP hD hT hS => ?_)
        refine lv_iinc (v := y2_4 + 1) (lv' := [(4, .int (y2_4 + 1)), (6, .int ((((gI M2 b5 (ix (y2_4 - 1))) + z7) - (((gI M2 b5 (ix (y2_4 - 1))) * 2) / 100)) - z8)), (5, .int (gI M2 b5 (ix (y2_4 - 1)))), (0, .ref (ad y2_0)), (2, .int y2_2), (3, .int y2_3)]) hx hb dX6_grow_80 hl (k := 5) rfl rfl (by decide) rfl (fun ls hl => ?_)
        refine lv_goto (tgt := 10) hx hb dX6_grow_83 rfl ?_
        exact ih2 (pI M2 b9 (ix y2_4) (if 0 < if 9999 < (((gI M2 b5 (ix (y2_4 - 1))) + z7) - (((gI M2 b5 (ix (y2_4 - 1))) * 2) / 100)) - z8 then 9999 else (((gI M2 b5 (ix (y2_4 - 1))) + z7) - (((gI M2 b5 (ix (y2_4 - 1))) * 2) / 100)) - z8 then if 9999 < (((gI M2 b5 (ix (y2_4 - 1))) + z7) - (((gI M2 b5 (ix (y2_4 - 1))) * 2) / 100)) - z8 then 9999 else (((gI M2 b5 (ix (y2_4 - 1))) + z7) - (((gI M2 b5 (ix (y2_4 - 1))) * 2) / 100)) - z8 else 0)) y2_0 y2_2 y2_3 (y2_4 + 1) ky2_0 _ _ h hP hD hT hS ls (lv_sub hl [3, 4, 5, 0] rfl)
  exact L2 FU (pI M b1 (ix 0) x1) a0 x2 x3 1 k0 _ _ h hP hD hT hS ls (lv_sub hl [1, 3, 4, 0] rfl)
set_option maxHeartbeats 4000000 in
set_option maxRecDepth 100000 in
theorem c_X0_growTrees {l : Launch} {D : va_G} {ad : Nat → Nat} {cy : Nat → ClassId} {A : Nat → Prop} {g : CG} {q : SE} (M : MM) (a0 : Nat) (k0 : ok g a0 0 0) {Z : MM} (h : f_X0_growTrees M a0 = some Z) : Met l yX0_growTrees wsX0_growTrees ({ frames := 3, cells := 0, slots := 0, locals := 64 }) (va_Pc [.ref (ad a0)] (Wd D ad cy A g q M)) (va_Qv (fun u => u = Z) (Wd D ad cy A g q) A) 0 0 A := by
  refine Met.ofW (cc := cX0_growTrees) (maxL := 3) (ret := none) (by decide) rfl ?_
  intro p e s m args below meth c s₁ B hml hv
  obtain ⟨rfl, hP, hK, hD, hT, hG⟩ := hv
  have hx := B.exec
  have hb := B.bytes
  have hr := B.returns
  have hts := atoms_spec (ws := wsX0_growTrees) B.pre
  have hown : s.vm.findClass RX0 = some m.cls := findClass_of_methodNamed B.named
  have hlocks := B.notSynchronized
  have in0 : ∀ w ∈ u_ws RX0 TX0 17, w ∈ wsX0_growTrees := fun w h => List.mem_cons_of_mem _ (List.mem_append_left _ (List.mem_append_right _ h))
  have hS : va_S A s.heap s.heap [] := va_S.rf
  have hl := lv_entry ([.ref (ad a0)]) (n := 3) (Nat.le_of_ble_eq_true rfl)
  rw [lg_entry_eq]
  generalize (lg_sl ([.ref (ad a0)]) ++ List.replicate (3 - (lg_sl ([.ref (ad a0)])).length) Slot.unset).toArray = ls at hl ⊢
  have hl : lv_has ls 3 [(0, .ref (ad a0))] := hl
  unfold f_X0_growTrees at h
  refine lv_iconst (v := 0) hx hb dX0_growTrees_0 rfl ?_
  refine lv_istore_n (lv' := [(1, .int 0), (0, .ref (ad a0))]) hx hb dX0_growTrees_1 rfl hl (by decide) rfl (fun ls hl => ?_)
  have L1 : ∀ n1 : Nat, ∀ (M1 : MM) (y1_0 : Nat) (y1_1 : Int32) (ky1_0 : ok g y1_0 0 0) (H : Heap) (locs : List Loc), f_X0_growTrees_L2 n1 M1 y1_0 y1_1 = some Z → va_P D vwCl (wd ad cy g M1) H → va_D A (wd ad cy g M1) → WT g M1 → va_S A s.heap H locs → ∀ (ls : Array Slot), lv_has ls 3 [(0, .ref (ad y1_0)), (1, .int y1_1)] → W p l e ((headSpec wsX0_growTrees ({ frames := 3, cells := 0, slots := 0, locals := 64 })).room) s m (([.ref (ad a0)] : List Value).toArray) below meth c H locs 0 0 (MQ below (va_Qv (fun u => u = Z) (Wd D ad cy A g q) A) ([.ref (ad a0)]).toArray s 0 0 A) (F0 m 2 ls []) := by
    intro n1
    induction n1 with
    | zero => intro M1 y1_0 y1_1 ky1_0 H locs h; exact absurd h (by simp [f_X0_growTrees_L2])
    | succ n1 ih1 =>
      intro M1 y1_0 y1_1 ky1_0 H locs h hP hD hT hS ls hl
      rw [f_X0_growTrees_L2] at h
      refine lv_iload_n hx hb dX0_growTrees_2 rfl (lv_at hl 1 rfl) ?_
      refine lv_aload_n hx hb dX0_growTrees_3 rfl (lv_at hl 0 rfl) ?_
      refine lv_iconst (v := 4) hx hb dX0_growTrees_4 rfl ?_
      obtain ⟨z2, h2, h⟩ := ob_some h
      refine k_i (va_runV (As := [.int 4]) (rest := [.int y1_1]) ⟨hx, hb, hml, hown, hts⟩ (c_X0_count (l := l) M1 y1_0 4 ky1_0 h2) (cwV 1 hts gX0_growTrees_X0_count rfl rfl rfl hdV_X0_count ⟨Nat.le_of_ble_eq_true rfl, Nat.le_of_ble_eq_true rfl⟩) (pV (T := TX0) hP hK hD hT hG hS ky1_0 (by decide) rfl) rfl rfl hl.1 rfl (lv_room (Nat.le_of_ble_eq_true rfl)) dX0_growTrees_5 ⟨Nat.zero_le _, Nat.zero_le _⟩) hS (fun H locs hP hD hT hS => ?_)
      refine lv_icmp_ge (tgt := 53) hx hb dX0_growTrees_8 rfl (fun c3 => ?_) (fun c3 => ?_)
      · replace h := ite_t c3 h
        exact r_vret hx hb hr hlocks hP hK hD hT hG hS (Option.some.inj h) dX0_growTrees_53
      · replace h := ite_f c3 h
        refine lv_aload_n hx hb dX0_growTrees_11 rfl (lv_at hl 0 rfl) ?_
        refine lv_iload_n hx hb dX0_growTrees_12 rfl (lv_at hl 1 rfl) ?_
        obtain ⟨z4, h4, h⟩ := ob_some h
        refine k_q (va_runV (As := [.int y1_1]) (rest := []) ⟨hx, hb, hml, hown, hts⟩ (c_X0_storyAt (l := l) M1 y1_0 y1_1 ky1_0 h4) (cwV 1 hts gX0_growTrees_X0_storyAt rfl rfl rfl hdV_X0_storyAt ⟨Nat.le_of_ble_eq_true rfl, Nat.le_of_ble_eq_true rfl⟩) (pV (T := TX0) hP hK hD hT hG hS ky1_0 (by decide) rfl) rfl rfl hl.1 rfl (lv_room (Nat.le_of_ble_eq_true rfl)) dX0_growTrees_13 ⟨Nat.zero_le _, Nat.zero_le _⟩) hS (fun H locs hq4 hP hD hT hS => ?_)
        rcases hN4 : z4 with _ | b4
        · replace h := oc_n hN4 h
          show W _ _ _ _ _ _ _ _ _ _ _ _ _ _ _ (F0 _ _ _ (.null :: []))
          refine lv_astore_nN (lv' := [(2, .null), (0, .ref (ad y1_0)), (1, .int y1_1)]) hx hb dX0_growTrees_16 rfl hl (by decide) rfl (fun ls hl => ?_)
          refine lv_aload_nN hx hb dX0_growTrees_17 rfl (lv_at hl 0 rfl) ?_
          refine lv_ifnullN (tgt := 47) hx hb dX0_growTrees_18 rfl ?_
          refine lv_iinc (v := y1_1 + 1) (lv' := [(1, .int (y1_1 + 1)), (2, .null), (0, .ref (ad y1_0))]) hx hb dX0_growTrees_47 hl (k := 2) rfl rfl (by decide) rfl (fun ls hl => ?_)
          refine lv_goto (tgt := 2) hx hb dX0_growTrees_50 rfl ?_
          exact ih1 M1 y1_0 (y1_1 + 1) ky1_0 _ _ h hP hD hT hS ls (lv_sub hl [2, 0] rfl)
        · replace h := oc_s hN4 h
          have kb4 := hq4 _ hN4
          show W _ _ _ _ _ _ _ _ _ _ _ _ _ _ _ (F0 _ _ _ (.ref (ad b4) :: []))
          refine lv_astore_n (lv' := [(2, .ref (ad b4)), (0, .ref (ad y1_0)), (1, .int y1_1)]) hx hb dX0_growTrees_16 rfl hl (by decide) rfl (fun ls hl => ?_)
          refine lv_aload_n hx hb dX0_growTrees_17 rfl (lv_at hl 0 rfl) ?_
          refine lv_ifnull hx hb dX0_growTrees_18 ?_
          refine lv_aload_n hx hb dX0_growTrees_21 rfl (lv_at hl 1 rfl) ?_
          refine lv_bipush (v := 7) hx hb dX0_growTrees_22 rfl ?_
          refine lv_iconst (v := 0) hx hb dX0_growTrees_24 rfl ?_
          obtain ⟨z5, h5, h⟩ := ob_some h
          refine k_z (va_runV (As := [.int 7, .int 0]) (rest := []) ⟨hx, hb, hml, hown, hts⟩ (c_X0_has (l := l) M1 y1_0 7 0 ky1_0 h5) (cwV 2 hts gX0_growTrees_X0_has rfl rfl rfl hdV_X0_has ⟨Nat.le_of_ble_eq_true rfl, Nat.le_of_ble_eq_true rfl⟩) (pV (T := TX0) hP hK hD hT hG hS ky1_0 (by decide) rfl) rfl rfl hl.1 rfl (lv_room (Nat.le_of_ble_eq_true rfl)) dX0_growTrees_25 ⟨Nat.zero_le _, Nat.zero_le _⟩) hS (fun H locs hz5 hP hD hT hS => ?_)
          refine lv_if_eq (tgt := 47) hx hb dX0_growTrees_28 rfl (fun c6 => ?_) (fun c6 => ?_)
          · replace h := ite_t c6 h
            refine lv_iinc (v := y1_1 + 1) (lv' := [(1, .int (y1_1 + 1)), (2, .ref (ad b4)), (0, .ref (ad y1_0))]) hx hb dX0_growTrees_47 hl (k := 2) rfl rfl (by decide) rfl (fun ls hl => ?_)
            refine lv_goto (tgt := 2) hx hb dX0_growTrees_50 rfl ?_
            exact ih1 M1 y1_0 (y1_1 + 1) ky1_0 _ _ h hP hD hT hS ls (lv_sub hl [2, 0] rfl)
          · replace h := ite_f c6 h
            refine lv_aload_n hx hb dX0_growTrees_31 rfl (lv_at hl 0 rfl) ?_
            refine lv_aload_n hx hb dX0_growTrees_32 rfl (lv_at hl 1 rfl) ?_
            refine r_get (T := TX0) (v := .int (gI M1 y1_0 9)) hx hb hts in0 hown hK hP ky1_0 (by decide) rfl 9 (by decide) (hts (.fieldLink RX0 217 "StoneWalk$Island" "trees" "I") (List.mem_of_getElem? (i := 1) (by decide +kernel))) rfl (t := 0) rfl rfl dX0_growTrees_33 ?_
            refine lv_aload_n hx hb dX0_growTrees_36 rfl (lv_at hl 1 rfl) ?_
            refine r_get (T := TX0) (v := .int (gI M1 y1_0 10)) hx hb hts in0 hown hK hP ky1_0 (by decide) rfl 10 (by decide) (hts (.fieldLink RX0 220 "StoneWalk$Island" "grows" "I") (List.mem_of_getElem? (i := 2) (by decide +kernel))) rfl (t := 0) rfl rfl dX0_growTrees_37 ?_
            refine lv_aload_n hx hb dX0_growTrees_40 rfl (lv_at hl 1 rfl) ?_
            refine r_get (T := TX0) (v := .int (gI M1 y1_0 11)) hx hb hts in0 hown hK hP ky1_0 (by decide) rfl 11 (by decide) (hts (.fieldLink RX0 223 "StoneWalk$Island" "people" "I") (List.mem_of_getElem? (i := 3) (by decide +kernel))) rfl (t := 0) rfl rfl dX0_growTrees_41 ?_
            obtain ⟨z7, h7, h⟩ := ob_some h
            refine k_v (va_runV (As := [.int (gI M1 y1_0 9), .int (gI M1 y1_0 10), .int (gI M1 y1_0 11)]) (rest := []) ⟨hx, hb, hml, hown, hts⟩ (c_X6_grow (l := l) M1 b4 (gI M1 y1_0 9) (gI M1 y1_0 10) (gI M1 y1_0 11) kb4 h7) (cwV 3 hts gX0_growTrees_X6_grow rfl rfl rfl hdV_X6_grow ⟨Nat.le_of_ble_eq_true rfl, Nat.le_of_ble_eq_true rfl⟩) (pV (T := TX6) hP hK hD hT hG hS kb4 (by decide) rfl) rfl rfl hl.1 rfl (lv_room (Nat.le_of_ble_eq_true rfl)) dX0_growTrees_44 ⟨Nat.zero_le _, Nat.zero_le _⟩) hS (fun H locs hP hD hT hS => ?_)
            refine lv_iinc (v := y1_1 + 1) (lv' := [(1, .int (y1_1 + 1)), (2, .ref (ad b4)), (0, .ref (ad y1_0))]) hx hb dX0_growTrees_47 hl (k := 2) rfl rfl (by decide) rfl (fun ls hl => ?_)
            refine lv_goto (tgt := 2) hx hb dX0_growTrees_50 rfl ?_
            exact ih1 z7 y1_0 (y1_1 + 1) ky1_0 _ _ h hP hD hT hS ls (lv_sub hl [2, 0] rfl)
  exact L1 FU M a0 0 k0 _ _ h hP hD hT hS ls (lv_sub hl [1, 0] rfl)
set_option maxHeartbeats 4000000 in
set_option maxRecDepth 100000 in
theorem c_X0_weightOf {l : Launch} {D : va_G} {ad : Nat → Nat} {cy : Nat → ClassId} {A : Nat → Prop} {g : CG} {q : SE} (M : MM) (a0 : Nat) (x1 : Int32) (k0 : ok g a0 0 0) {Z : Int32} (h : f_X0_weightOf M a0 x1 = some Z) : Met l yX0_weightOf wsX0_weightOf ({ frames := 2, cells := 0, slots := 0, locals := 42 }) (va_Pc [.ref (ad a0), .int x1] (Wd D ad cy A g q M)) (va_Qi (fun r u => r = Z ∧ u = M) (Wd D ad cy A g q) A) 0 0 A := by
  refine Met.ofW (cc := cX0_weightOf) (maxL := 5) (ret := (some .int)) (by decide) rfl ?_
  intro p e s m args below meth c s₁ B hml hv
  obtain ⟨rfl, hP, hK, hD, hT, hG⟩ := hv
  have hx := B.exec
  have hb := B.bytes
  have hr := B.returns
  have hts := atoms_spec (ws := wsX0_weightOf) B.pre
  have hown : s.vm.findClass RX0 = some m.cls := findClass_of_methodNamed B.named
  have hlocks := B.notSynchronized
  have in6 : ∀ w ∈ u_ws RX6 TX6 5, w ∈ wsX0_weightOf := fun w h => List.mem_cons_of_mem _ (List.mem_append_left _ (List.mem_append_right _ h))
  have hS : va_S A s.heap s.heap [] := va_S.rf
  have hl := lv_entry ([.ref (ad a0), .int x1]) (n := 5) (Nat.le_of_ble_eq_true rfl)
  rw [lg_entry_eq]
  generalize (lg_sl ([.ref (ad a0), .int x1]) ++ List.replicate (5 - (lg_sl ([.ref (ad a0), .int x1])).length) Slot.unset).toArray = ls at hl ⊢
  have hl : lv_has ls 5 [(0, .ref (ad a0)), (1, .int x1)] := hl
  unfold f_X0_weightOf at h
  refine lv_iconst (v := 0) hx hb dX0_weightOf_0 rfl ?_
  refine lv_istore_n (lv' := [(2, .int 0), (0, .ref (ad a0)), (1, .int x1)]) hx hb dX0_weightOf_1 rfl hl (by decide) rfl (fun ls hl => ?_)
  refine lv_iconst (v := 0) hx hb dX0_weightOf_2 rfl ?_
  refine lv_istore_n (lv' := [(3, .int 0), (2, .int 0), (0, .ref (ad a0)), (1, .int x1)]) hx hb dX0_weightOf_3 rfl hl (by decide) rfl (fun ls hl => ?_)
  have L1 : ∀ n1 : Nat, ∀ (y1_0 : Nat) (y1_1 : Int32) (y1_2 : Int32) (y1_3 : Int32) (ky1_0 : ok g y1_0 0 0) (H : Heap) (locs : List Loc), f_X0_weightOf_L4 n1 M y1_0 y1_1 y1_2 y1_3 = some Z → va_P D vwCl (wd ad cy g M) H → va_D A (wd ad cy g M) → WT g M → va_S A s.heap H locs → ∀ (ls : Array Slot), lv_has ls 5 [(0, .ref (ad y1_0)), (1, .int y1_1), (2, .int y1_2), (3, .int y1_3)] → W p l e ((headSpec wsX0_weightOf ({ frames := 2, cells := 0, slots := 0, locals := 42 })).room) s m (([.ref (ad a0), .int x1] : List Value).toArray) below meth c H locs 0 0 (MQ below (va_Qi (fun r u => r = Z ∧ u = M) (Wd D ad cy A g q) A) ([.ref (ad a0), .int x1]).toArray s 0 0 A) (F0 m 4 ls []) := by
    intro n1
    induction n1 with
    | zero => intro y1_0 y1_1 y1_2 y1_3 ky1_0 H locs h; exact absurd h (by simp [f_X0_weightOf_L4])
    | succ n1 ih1 =>
      intro y1_0 y1_1 y1_2 y1_3 ky1_0 H locs h hP hD hT hS ls hl
      rw [f_X0_weightOf_L4] at h
      refine lv_iload_n hx hb dX0_weightOf_4 rfl (lv_at hl 3 rfl) ?_
      refine lv_aload_n hx hb dX0_weightOf_5 rfl (lv_at hl 0 rfl) ?_
      refine lv_iconst (v := 4) hx hb dX0_weightOf_6 rfl ?_
      obtain ⟨z2, h2, h⟩ := ob_some h
      refine k_i (va_runV (As := [.int 4]) (rest := [.int y1_3]) ⟨hx, hb, hml, hown, hts⟩ (c_X0_count (l := l) M y1_0 4 ky1_0 h2) (cwV 1 hts gX0_weightOf_X0_count rfl rfl rfl hdV_X0_count ⟨Nat.le_of_ble_eq_true rfl, Nat.le_of_ble_eq_true rfl⟩) (pV (T := TX0) hP hK hD hT hG hS ky1_0 (by decide) rfl) rfl rfl hl.1 rfl (lv_room (Nat.le_of_ble_eq_true rfl)) dX0_weightOf_7 ⟨Nat.zero_le _, Nat.zero_le _⟩) hS (fun H locs hP hD hT hS => ?_)
      refine lv_icmp_ge (tgt := 48) hx hb dX0_weightOf_10 rfl (fun c3 => ?_) (fun c3 => ?_)
      · replace h := ite_t c3 h
        refine lv_iload_n hx hb dX0_weightOf_48 rfl (lv_at hl 2 rfl) ?_
        exact r_iret hx hb hr hlocks hP hK hD hT hG hS (Option.some.inj h) rfl dX0_weightOf_49
      · replace h := ite_f c3 h
        refine lv_aload_n hx hb dX0_weightOf_13 rfl (lv_at hl 0 rfl) ?_
        refine lv_iload_n hx hb dX0_weightOf_14 rfl (lv_at hl 3 rfl) ?_
        obtain ⟨z4, h4, h⟩ := ob_some h
        refine k_q (va_runV (As := [.int y1_3]) (rest := []) ⟨hx, hb, hml, hown, hts⟩ (c_X0_storyAt (l := l) M y1_0 y1_3 ky1_0 h4) (cwV 1 hts gX0_weightOf_X0_storyAt rfl rfl rfl hdV_X0_storyAt ⟨Nat.le_of_ble_eq_true rfl, Nat.le_of_ble_eq_true rfl⟩) (pV (T := TX0) hP hK hD hT hG hS ky1_0 (by decide) rfl) rfl rfl hl.1 rfl (lv_room (Nat.le_of_ble_eq_true rfl)) dX0_weightOf_15 ⟨Nat.zero_le _, Nat.zero_le _⟩) hS (fun H locs hq4 hP hD hT hS => ?_)
        rcases hN4 : z4 with _ | b4
        · replace h := oc_n hN4 h
          show W _ _ _ _ _ _ _ _ _ _ _ _ _ _ _ (F0 _ _ _ (.null :: []))
          refine lv_astoreN (lv' := [(4, .null), (0, .ref (ad y1_0)), (1, .int y1_1), (2, .int y1_2), (3, .int y1_3)]) hx hb dX0_weightOf_18 hl (by decide) rfl (fun ls hl => ?_)
          refine lv_aloadN hx hb dX0_weightOf_20 (lv_at hl 0 rfl) ?_
          refine lv_ifnullN (tgt := 42) hx hb dX0_weightOf_22 rfl ?_
          refine lv_iinc (v := y1_3 + 1) (lv' := [(3, .int (y1_3 + 1)), (4, .null), (0, .ref (ad y1_0)), (1, .int y1_1), (2, .int y1_2)]) hx hb dX0_weightOf_42 hl (k := 4) rfl rfl (by decide) rfl (fun ls hl => ?_)
          refine lv_goto (tgt := 4) hx hb dX0_weightOf_45 rfl ?_
          exact ih1 y1_0 y1_1 y1_2 (y1_3 + 1) ky1_0 _ _ h hP hD hT hS ls (lv_sub hl [2, 3, 4, 0] rfl)
        · replace h := oc_s hN4 h
          have kb4 := hq4 _ hN4
          show W _ _ _ _ _ _ _ _ _ _ _ _ _ _ _ (F0 _ _ _ (.ref (ad b4) :: []))
          refine lv_astore (lv' := [(4, .ref (ad b4)), (0, .ref (ad y1_0)), (1, .int y1_1), (2, .int y1_2), (3, .int y1_3)]) hx hb dX0_weightOf_18 hl (by decide) rfl (fun ls hl => ?_)
          refine lv_aload hx hb dX0_weightOf_20 (lv_at hl 0 rfl) ?_
          refine lv_ifnull hx hb dX0_weightOf_22 ?_
          refine lv_iload_n hx hb dX0_weightOf_25 rfl (lv_at hl 2 rfl) ?_
          refine lv_iload_n hx hb dX0_weightOf_26 rfl (lv_at hl 4 rfl) ?_
          refine lv_ishr hx hb dX0_weightOf_27 ?_
          refine lv_iconst (v := 1) hx hb dX0_weightOf_28 rfl ?_
          refine lv_iand hx hb dX0_weightOf_29 ?_
          refine lv_iconst (v := 1) hx hb dX0_weightOf_30 rfl ?_
          refine lv_icmp_ne (tgt := 42) hx hb dX0_weightOf_31 rfl (fun c5 => ?_) (fun c5 => ?_)
          · replace h := ite_f c5 h
            refine lv_iinc (v := y1_3 + 1) (lv' := [(3, .int (y1_3 + 1)), (4, .ref (ad b4)), (0, .ref (ad y1_0)), (1, .int y1_1), (2, .int y1_2)]) hx hb dX0_weightOf_42 hl (k := 4) rfl rfl (by decide) rfl (fun ls hl => ?_)
            refine lv_goto (tgt := 4) hx hb dX0_weightOf_45 rfl ?_
            exact ih1 y1_0 y1_1 y1_2 (y1_3 + 1) ky1_0 _ _ h hP hD hT hS ls (lv_sub hl [2, 3, 4, 0] rfl)
          · replace h := ite_t c5 h
            refine lv_iload_n hx hb dX0_weightOf_34 rfl (lv_at hl 3 rfl) ?_
            refine lv_aload hx hb dX0_weightOf_35 (lv_at hl 0 rfl) ?_
            refine r_get (T := TX6) (v := .int (gI M b4 0)) hx hb hts in6 hown hK hP kb4 (by decide) rfl 0 (by decide) (hts (.fieldLink RX0 228 "StoneWalk$Story" "weighs" "I") (List.mem_of_getElem? (i := 1) (by decide +kernel))) rfl (t := 0) rfl rfl dX0_weightOf_37 ?_
            refine lv_iadd hx hb dX0_weightOf_40 ?_
            refine lv_istore_n (lv' := [(2, .int (y1_2 + (gI M b4 0))), (4, .ref (ad b4)), (0, .ref (ad y1_0)), (1, .int y1_1), (3, .int y1_3)]) hx hb dX0_weightOf_41 rfl hl (by decide) rfl (fun ls hl => ?_)
            refine lv_iinc (v := y1_3 + 1) (lv' := [(3, .int (y1_3 + 1)), (2, .int (y1_2 + (gI M b4 0))), (4, .ref (ad b4)), (0, .ref (ad y1_0)), (1, .int y1_1)]) hx hb dX0_weightOf_42 hl (k := 4) rfl rfl (by decide) rfl (fun ls hl => ?_)
            refine lv_goto (tgt := 4) hx hb dX0_weightOf_45 rfl ?_
            exact ih1 y1_0 y1_1 (y1_2 + (gI M b4 0)) (y1_3 + 1) ky1_0 _ _ h hP hD hT hS ls (lv_sub hl [3, 4, 1, 0] rfl)
  exact L1 FU a0 x1 0 0 k0 _ _ h hP hD hT hS ls (lv_sub hl [2, 3, 1, 0] rfl)
set_option maxHeartbeats 4000000 in
set_option maxRecDepth 100000 in
theorem c_X6_treesIn {l : Launch} {D : va_G} {ad : Nat → Nat} {cy : Nat → ClassId} {A : Nat → Prop} {g : CG} {q : SE} (M : MM) (a0 : Nat) (x1 : Int32) (k0 : ok g a0 6 0) {Z : Int32} (h : f_X6_treesIn M a0 x1 = some Z) : Met l yX6_treesIn wsX6_treesIn ({ frames := 1, cells := 0, slots := 0, locals := 21 }) (va_Pc [.ref (ad a0), .int x1] (Wd D ad cy A g q M)) (va_Qi (fun r u => r = Z ∧ u = M) (Wd D ad cy A g q) A) 0 0 A := by
  refine Met.ofW (cc := cX6_treesIn) (maxL := 2) (ret := (some .int)) (by decide) rfl ?_
  intro p e s m args below meth c s₁ B hml hv
  obtain ⟨rfl, hP, hK, hD, hT, hG⟩ := hv
  have hx := B.exec
  have hb := B.bytes
  have hr := B.returns
  have hts := atoms_spec (ws := wsX6_treesIn) B.pre
  have hown : s.vm.findClass RX6 = some m.cls := findClass_of_methodNamed B.named
  have hlocks := B.notSynchronized
  have in6 : ∀ w ∈ u_ws RX6 TX6 5, w ∈ wsX6_treesIn := fun w h => List.mem_cons_of_mem _ (List.mem_append_right _ h)
  have hS : va_S A s.heap s.heap [] := va_S.rf
  have hl := lv_entry ([.ref (ad a0), .int x1]) (n := 2) (Nat.le_of_ble_eq_true rfl)
  rw [lg_entry_eq]
  generalize (lg_sl ([.ref (ad a0), .int x1]) ++ List.replicate (2 - (lg_sl ([.ref (ad a0), .int x1])).length) Slot.unset).toArray = ls at hl ⊢
  have hl : lv_has ls 2 [(0, .ref (ad a0)), (1, .int x1)] := hl
  unfold f_X6_treesIn at h
  refine lv_aload_n hx hb dX6_treesIn_0 rfl (lv_at hl 0 rfl) ?_
  rcases hN1 : gR M a0 4 with _ | b1
  · exact absurd (oc_n hN1 h) (by simp)
  replace h := oc_s hN1 h
  have kb1 := hT.f k0 (k := 4) (t := 15) (n := 100) rfl hN1
  refine r_get (T := TX6) (v := .ref (ad b1)) hx hb hts in6 hown hK hP k0 (by decide) rfl 4 (by decide) (hts (.fieldLink RX6 9 "StoneWalk$Story" "counts" "[I") (List.mem_of_getElem? (i := 1) (by decide +kernel))) rfl (t := 2) rfl (by show va_rf _ = _; rw [hN1]; rfl) dX6_treesIn_1 ?_
  refine lv_iload_n hx hb dX6_treesIn_4 rfl (lv_at hl 1 rfl) ?_
  obtain ⟨z2, h2, h⟩ := ob_some h
  refine k_i (va_runSN (As := [.ref (ad b1), .int x1]) (rest := []) ⟨hx, hb, hml, hown, hts⟩ (c_X11_entry (l := l) M b1 100 x1 kb1 h2) ⟨va_cnB 2 hts gX6_treesIn_X11_entry_n41 rfl rfl rfl (hG.2.1 _ (List.mem_of_getElem? (i := 15) rfl)) (hts (.initialized RX11) (List.mem_of_getElem? (i := 3) (by decide +kernel))) hdS_X11_entry ⟨Nat.le_of_ble_eq_true rfl, Nat.le_of_ble_eq_true rfl⟩, (hts (.static yX11_entry) (List.mem_of_getElem? (i := 2) (by decide +kernel))), trivial⟩ (pS hP hK hD hT hG hS) rfl rfl hl.1 rfl (lv_room (Nat.le_of_ble_eq_true rfl)) dX6_treesIn_5 ⟨Nat.zero_le _, Nat.zero_le _⟩) hS (fun H locs hP hD hT hS => ?_)
  exact r_iret hx hb hr hlocks hP hK hD hT hG hS (Option.some.inj h) rfl dX6_treesIn_8
set_option maxHeartbeats 4000000 in
set_option maxRecDepth 100000 in
theorem c_X0_spread {l : Launch} {D : va_G} {ad : Nat → Nat} {cy : Nat → ClassId} {A : Nat → Prop} {g : CG} {q : SE} (M : MM) (a0 : Nat) (x1 : Int32) (x2 : Int32) (k0 : ok g a0 0 0) {Z : Int32} (h : f_X0_spread M a0 x1 x2 = some Z) : Met l yX0_spread wsX0_spread ({ frames := 2, cells := 0, slots := 0, locals := 42 }) (va_Pc [.ref (ad a0), .int x1, .int x2] (Wd D ad cy A g q M)) (va_Qi (fun r u => r = Z ∧ u = M) (Wd D ad cy A g q) A) 0 0 A := by
  refine Met.ofW (cc := cX0_spread) (maxL := 7) (ret := (some .int)) (by decide) rfl ?_
  intro p e s m args below meth c s₁ B hml hv
  obtain ⟨rfl, hP, hK, hD, hT, hG⟩ := hv
  have hx := B.exec
  have hb := B.bytes
  have hr := B.returns
  have hts := atoms_spec (ws := wsX0_spread) B.pre
  have hown : s.vm.findClass RX0 = some m.cls := findClass_of_methodNamed B.named
  have hlocks := B.notSynchronized
  have hS : va_S A s.heap s.heap [] := va_S.rf
  have hl := lv_entry ([.ref (ad a0), .int x1, .int x2]) (n := 7) (Nat.le_of_ble_eq_true rfl)
  rw [lg_entry_eq]
  generalize (lg_sl ([.ref (ad a0), .int x1, .int x2]) ++ List.replicate (7 - (lg_sl ([.ref (ad a0), .int x1, .int x2])).length) Slot.unset).toArray = ls at hl ⊢
  have hl : lv_has ls 7 [(0, .ref (ad a0)), (1, .int x1), (2, .int x2)] := hl
  unfold f_X0_spread at h
  refine lv_sipush (v := 9999) hx hb dX0_spread_0 rfl ?_
  refine lv_istore_n (lv' := [(3, .int 9999), (0, .ref (ad a0)), (1, .int x1), (2, .int x2)]) hx hb dX0_spread_3 rfl hl (by decide) rfl (fun ls hl => ?_)
  refine lv_iconst (v := 0) hx hb dX0_spread_4 rfl ?_
  refine lv_istore (lv' := [(4, .int 0), (3, .int 9999), (0, .ref (ad a0)), (1, .int x1), (2, .int x2)]) hx hb dX0_spread_5 hl (by decide) rfl (fun ls hl => ?_)
  refine lv_iconst (v := 0) hx hb dX0_spread_7 rfl ?_
  refine lv_istore (lv' := [(5, .int 0), (4, .int 0), (3, .int 9999), (0, .ref (ad a0)), (1, .int x1), (2, .int x2)]) hx hb dX0_spread_8 hl (by decide) rfl (fun ls hl => ?_)
  have L1 : ∀ n1 : Nat, ∀ (y1_0 : Nat) (y1_1 : Int32) (y1_2 : Int32) (y1_3 : Int32) (y1_4 : Int32) (y1_5 : Int32) (ky1_0 : ok g y1_0 0 0) (H : Heap) (locs : List Loc), f_X0_spread_L10 n1 M y1_0 y1_1 y1_2 y1_3 y1_4 y1_5 = some Z → va_P D vwCl (wd ad cy g M) H → va_D A (wd ad cy g M) → WT g M → va_S A s.heap H locs → ∀ (ls : Array Slot), lv_has ls 7 [(0, .ref (ad y1_0)), (1, .int y1_1), (2, .int y1_2), (3, .int y1_3), (4, .int y1_4), (5, .int y1_5)] → W p l e ((headSpec wsX0_spread ({ frames := 2, cells := 0, slots := 0, locals := 42 })).room) s m (([.ref (ad a0), .int x1, .int x2] : List Value).toArray) below meth c H locs 0 0 (MQ below (va_Qi (fun r u => r = Z ∧ u = M) (Wd D ad cy A g q) A) ([.ref (ad a0), .int x1, .int x2]).toArray s 0 0 A) (F0 m 10 ls []) := by
    intro n1
    induction n1 with
    | zero => intro y1_0 y1_1 y1_2 y1_3 y1_4 y1_5 ky1_0 H locs h; exact absurd h (by simp [f_X0_spread_L10])
    | succ n1 ih1 =>
      intro y1_0 y1_1 y1_2 y1_3 y1_4 y1_5 ky1_0 H locs h hP hD hT hS ls hl
      rw [f_X0_spread_L10] at h
      refine lv_iload hx hb dX0_spread_10 (lv_at hl 5 rfl) ?_
      refine lv_aload_n hx hb dX0_spread_12 rfl (lv_at hl 0 rfl) ?_
      refine lv_iconst (v := 4) hx hb dX0_spread_13 rfl ?_
      obtain ⟨z2, h2, h⟩ := ob_some h
      refine k_i (va_runV (As := [.int 4]) (rest := [.int y1_5]) ⟨hx, hb, hml, hown, hts⟩ (c_X0_count (l := l) M y1_0 4 ky1_0 h2) (cwV 1 hts gX0_spread_X0_count rfl rfl rfl hdV_X0_count ⟨Nat.le_of_ble_eq_true rfl, Nat.le_of_ble_eq_true rfl⟩) (pV (T := TX0) hP hK hD hT hG hS ky1_0 (by decide) rfl) rfl rfl hl.1 rfl (lv_room (Nat.le_of_ble_eq_true rfl)) dX0_spread_14 ⟨Nat.zero_le _, Nat.zero_le _⟩) hS (fun H locs hP hD hT hS => ?_)
      refine lv_icmp_ge (tgt := 73) hx hb dX0_spread_17 rfl (fun c3 => ?_) (fun c3 => ?_)
      · replace h := ite_t c3 h
        refine lv_iload hx hb dX0_spread_73 (lv_at hl 4 rfl) ?_
        refine lv_iload_n hx hb dX0_spread_75 rfl (lv_at hl 3 rfl) ?_
        refine lv_isub hx hb dX0_spread_76 ?_
        exact r_iret hx hb hr hlocks hP hK hD hT hG hS (Option.some.inj h) rfl dX0_spread_77
      · replace h := ite_f c3 h
        refine lv_aload_n hx hb dX0_spread_20 rfl (lv_at hl 0 rfl) ?_
        refine lv_iload hx hb dX0_spread_21 (lv_at hl 5 rfl) ?_
        obtain ⟨z4, h4, h⟩ := ob_some h
        refine k_q (va_runV (As := [.int y1_5]) (rest := []) ⟨hx, hb, hml, hown, hts⟩ (c_X0_storyAt (l := l) M y1_0 y1_5 ky1_0 h4) (cwV 1 hts gX0_spread_X0_storyAt rfl rfl rfl hdV_X0_storyAt ⟨Nat.le_of_ble_eq_true rfl, Nat.le_of_ble_eq_true rfl⟩) (pV (T := TX0) hP hK hD hT hG hS ky1_0 (by decide) rfl) rfl rfl hl.1 rfl (lv_room (Nat.le_of_ble_eq_true rfl)) dX0_spread_23 ⟨Nat.zero_le _, Nat.zero_le _⟩) hS (fun H locs hq4 hP hD hT hS => ?_)
        rcases hN4 : z4 with _ | b4
        · replace h := oc_n hN4 h
          show W _ _ _ _ _ _ _ _ _ _ _ _ _ _ _ (F0 _ _ _ (.null :: []))
          refine lv_astoreN (lv' := [(6, .null), (0, .ref (ad y1_0)), (1, .int y1_1), (2, .int y1_2), (3, .int y1_3), (4, .int y1_4), (5, .int y1_5)]) hx hb dX0_spread_26 hl (by decide) rfl (fun ls hl => ?_)
          refine lv_aloadN hx hb dX0_spread_28 (lv_at hl 0 rfl) ?_
          refine lv_ifnullN (tgt := 67) hx hb dX0_spread_30 rfl ?_
          refine lv_iinc (v := y1_5 + 1) (lv' := [(5, .int (y1_5 + 1)), (6, .null), (0, .ref (ad y1_0)), (1, .int y1_1), (2, .int y1_2), (3, .int y1_3), (4, .int y1_4)]) hx hb dX0_spread_67 hl (k := 6) rfl rfl (by decide) rfl (fun ls hl => ?_)
          refine lv_goto (tgt := 10) hx hb dX0_spread_70 rfl ?_
          exact ih1 y1_0 y1_1 y1_2 y1_3 y1_4 (y1_5 + 1) ky1_0 _ _ h hP hD hT hS ls (lv_sub hl [2, 3, 4, 5, 6, 0] rfl)
        · replace h := oc_s hN4 h
          have kb4 := hq4 _ hN4
          show W _ _ _ _ _ _ _ _ _ _ _ _ _ _ _ (F0 _ _ _ (.ref (ad b4) :: []))
          refine lv_astore (lv' := [(6, .ref (ad b4)), (0, .ref (ad y1_0)), (1, .int y1_1), (2, .int y1_2), (3, .int y1_3), (4, .int y1_4), (5, .int y1_5)]) hx hb dX0_spread_26 hl (by decide) rfl (fun ls hl => ?_)
          refine lv_aload hx hb dX0_spread_28 (lv_at hl 0 rfl) ?_
          refine lv_ifnull hx hb dX0_spread_30 ?_
          refine lv_iload_n hx hb dX0_spread_33 rfl (lv_at hl 2 rfl) ?_
          refine lv_iload hx hb dX0_spread_34 (lv_at hl 6 rfl) ?_
          refine lv_ishr hx hb dX0_spread_36 ?_
          refine lv_iconst (v := 1) hx hb dX0_spread_37 rfl ?_
          refine lv_iand hx hb dX0_spread_38 ?_
          refine lv_iconst (v := 1) hx hb dX0_spread_39 rfl ?_
          refine lv_icmp_ne (tgt := 67) hx hb dX0_spread_40 rfl (fun c5 => ?_) (fun c5 => ?_)
          · replace h := ite_f c5 h
            refine lv_iinc (v := y1_5 + 1) (lv' := [(5, .int (y1_5 + 1)), (6, .ref (ad b4)), (0, .ref (ad y1_0)), (1, .int y1_1), (2, .int y1_2), (3, .int y1_3), (4, .int y1_4)]) hx hb dX0_spread_67 hl (k := 6) rfl rfl (by decide) rfl (fun ls hl => ?_)
            refine lv_goto (tgt := 10) hx hb dX0_spread_70 rfl ?_
            exact ih1 y1_0 y1_1 y1_2 y1_3 y1_4 (y1_5 + 1) ky1_0 _ _ h hP hD hT hS ls (lv_sub hl [2, 3, 4, 5, 6, 0] rfl)
          · replace h := ite_t c5 h
            refine lv_iload_n hx hb dX0_spread_43 rfl (lv_at hl 4 rfl) ?_
            refine lv_aload hx hb dX0_spread_44 (lv_at hl 0 rfl) ?_
            refine lv_iload_n hx hb dX0_spread_46 rfl (lv_at hl 3 rfl) ?_
            obtain ⟨z6, h6, h⟩ := ob_some h
            refine k_i (va_runV (As := [.int y1_2]) (rest := [.int y1_3]) ⟨hx, hb, hml, hown, hts⟩ (c_X6_treesIn (l := l) M b4 y1_2 kb4 h6) (cwV 1 hts gX0_spread_X6_treesIn rfl rfl rfl hdV_X6_treesIn ⟨Nat.le_of_ble_eq_true rfl, Nat.le_of_ble_eq_true rfl⟩) (pV (T := TX6) hP hK hD hT hG hS kb4 (by decide) rfl) rfl rfl hl.1 rfl (lv_room (Nat.le_of_ble_eq_true rfl)) dX0_spread_47 ⟨Nat.zero_le _, Nat.zero_le _⟩) hS (fun H locs hP hD hT hS => ?_)
            refine va_mmin hx hb (hml.trans hl.1.symm) hown (hts (.methodLink RX0 200 Lib.Math.min.name) (List.mem_of_getElem? (i := 1) (by decide +kernel))) (hts (.static Lib.Math.min.name) (List.mem_of_getElem? (i := 2) (by decide +kernel))) (hts (.initialized "java/lang/Math") (List.mem_of_getElem? (i := 3) (by decide +kernel))) (hts (.code Lib.Math.min.name Lib.Math.min.code 2 (some .int)) (List.mem_of_getElem? (i := 4) (by decide +kernel))) (Nat.le_of_ble_eq_true rfl) (Nat.le_of_ble_eq_true rfl) (Nat.zero_le _) (Nat.zero_le _) dX0_spread_50 ?_
            refine lv_istore_n (lv' := [(3, .int (if z6 < y1_3 then z6 else y1_3)), (6, .ref (ad b4)), (0, .ref (ad y1_0)), (1, .int y1_1), (2, .int y1_2), (4, .int y1_4), (5, .int y1_5)]) hx hb dX0_spread_53 rfl hl (by decide) rfl (fun ls hl => ?_)
            refine lv_iload hx hb dX0_spread_54 (lv_at hl 5 rfl) ?_
            refine lv_aload hx hb dX0_spread_56 (lv_at hl 1 rfl) ?_
            refine lv_iload_n hx hb dX0_spread_58 rfl (lv_at hl 4 rfl) ?_
            obtain ⟨z7, h7, h⟩ := ob_some h
            refine k_i (va_runV (As := [.int y1_2]) (rest := [.int y1_4]) ⟨hx, hb, hml, hown, hts⟩ (c_X6_treesIn (l := l) M b4 y1_2 kb4 h7) (cwV 1 hts gX0_spread_X6_treesIn rfl rfl rfl hdV_X6_treesIn ⟨Nat.le_of_ble_eq_true rfl, Nat.le_of_ble_eq_true rfl⟩) (pV (T := TX6) hP hK hD hT hG hS kb4 (by decide) rfl) rfl rfl hl.1 rfl (lv_room (Nat.le_of_ble_eq_true rfl)) dX0_spread_59 ⟨Nat.zero_le _, Nat.zero_le _⟩) hS (fun H locs hP hD hT hS => ?_)
            refine va_mmax hx hb (hml.trans hl.1.symm) hown (hts (.methodLink RX0 192 Lib.Math.max.name) (List.mem_of_getElem? (i := 5) (by decide +kernel))) (hts (.static Lib.Math.max.name) (List.mem_of_getElem? (i := 6) (by decide +kernel))) (hts (.initialized "java/lang/Math") (List.mem_of_getElem? (i := 3) (by decide +kernel))) (hts (.code Lib.Math.max.name Lib.Math.max.code 2 (some .int)) (List.mem_of_getElem? (i := 7) (by decide +kernel))) (Nat.le_of_ble_eq_true rfl) (Nat.le_of_ble_eq_true rfl) (Nat.zero_le _) (Nat.zero_le _) dX0_spread_62 ?_
            refine lv_istore (lv' := [(4, .int (if y1_4 < z7 then z7 else y1_4)), (3, .int (if z6 < y1_3 then z6 else y1_3)), (6, .ref (ad b4)), (0, .ref (ad y1_0)), (1, .int y1_1), (2, .int y1_2), (5, .int y1_5)]) hx hb dX0_spread_65 hl (by decide) rfl (fun ls hl => ?_)
            refine lv_iinc (v := y1_5 + 1) (lv' := [(5, .int (y1_5 + 1)), (4, .int (if y1_4 < z7 then z7 else y1_4)), (3, .int (if z6 < y1_3 then z6 else y1_3)), (6, .ref (ad b4)), (0, .ref (ad y1_0)), (1, .int y1_1), (2, .int y1_2)]) hx hb dX0_spread_67 hl (k := 6) rfl rfl (by decide) rfl (fun ls hl => ?_)
            refine lv_goto (tgt := 10) hx hb dX0_spread_70 rfl ?_
            exact ih1 y1_0 y1_1 y1_2 (if z6 < y1_3 then z6 else y1_3) (if y1_4 < z7 then z7 else y1_4) (y1_5 + 1) ky1_0 _ _ h hP hD hT hS ls (lv_sub hl [4, 5, 6, 2, 1, 0] rfl)
  exact L1 FU a0 x1 x2 9999 0 0 k0 _ _ h hP hD hT hS ls (lv_sub hl [3, 4, 5, 2, 1, 0] rfl)
set_option maxHeartbeats 4000000 in
set_option maxRecDepth 100000 in
theorem c_X0_yearOfDispute {l : Launch} {D : va_G} {ad : Nat → Nat} {cy : Nat → ClassId} {A : Nat → Prop} {g : CG} {q : SE} (M : MM) (a0 : Nat) (x1 : Int32) (k0 : ok g a0 0 0) {Z : Int32} (h : f_X0_yearOfDispute M a0 x1 = some Z) : Met l yX0_yearOfDispute wsX0_yearOfDispute ({ frames := 3, cells := 0, slots := 0, locals := 68 }) (va_Pc [.ref (ad a0), .int x1] (Wd D ad cy A g q M)) (va_Qi (fun r u => r = Z ∧ u = M) (Wd D ad cy A g q) A) 0 0 A := by
  refine Met.ofW (cc := cX0_yearOfDispute) (maxL := 6) (ret := (some .int)) (by decide) rfl ?_
  intro p e s m args below meth c s₁ B hml hv
  obtain ⟨rfl, hP, hK, hD, hT, hG⟩ := hv
  have hx := B.exec
  have hb := B.bytes
  have hr := B.returns
  have hts := atoms_spec (ws := wsX0_yearOfDispute) B.pre
  have hown : s.vm.findClass RX0 = some m.cls := findClass_of_methodNamed B.named
  have hlocks := B.notSynchronized
  have hS : va_S A s.heap s.heap [] := va_S.rf
  have hl := lv_entry ([.ref (ad a0), .int x1]) (n := 6) (Nat.le_of_ble_eq_true rfl)
  rw [lg_entry_eq]
  generalize (lg_sl ([.ref (ad a0), .int x1]) ++ List.replicate (6 - (lg_sl ([.ref (ad a0), .int x1])).length) Slot.unset).toArray = ls at hl ⊢
  have hl : lv_has ls 6 [(0, .ref (ad a0)), (1, .int x1)] := hl
  unfold f_X0_yearOfDispute at h
  refine lv_iconst (v := 0) hx hb dX0_yearOfDispute_0 rfl ?_
  refine lv_istore_n (lv' := [(2, .int 0), (0, .ref (ad a0)), (1, .int x1)]) hx hb dX0_yearOfDispute_1 rfl hl (by decide) rfl (fun ls hl => ?_)
  refine lv_iconst (v := 0) hx hb dX0_yearOfDispute_2 rfl ?_
  refine lv_istore_n (lv' := [(3, .int 0), (2, .int 0), (0, .ref (ad a0)), (1, .int x1)]) hx hb dX0_yearOfDispute_3 rfl hl (by decide) rfl (fun ls hl => ?_)
  refine lv_iconst (v := 0) hx hb dX0_yearOfDispute_4 rfl ?_
  refine lv_istore (lv' := [(4, .int 0), (3, .int 0), (2, .int 0), (0, .ref (ad a0)), (1, .int x1)]) hx hb dX0_yearOfDispute_5 hl (by decide) rfl (fun ls hl => ?_)
  have L1 : ∀ n1 : Nat, ∀ (y1_0 : Nat) (y1_1 : Int32) (y1_2 : Int32) (y1_3 : Int32) (y1_4 : Int32) (ky1_0 : ok g y1_0 0 0) (H : Heap) (locs : List Loc), f_X0_yearOfDispute_L7 n1 M y1_0 y1_1 y1_2 y1_3 y1_4 = some Z → va_P D vwCl (wd ad cy g M) H → va_D A (wd ad cy g M) → WT g M → va_S A s.heap H locs → ∀ (ls : Array Slot), lv_has ls 6 [(0, .ref (ad y1_0)), (1, .int y1_1), (2, .int y1_2), (3, .int y1_3), (4, .int y1_4)] → W p l e ((headSpec wsX0_yearOfDispute ({ frames := 3, cells := 0, slots := 0, locals := 68 })).room) s m (([.ref (ad a0), .int x1] : List Value).toArray) below meth c H locs 0 0 (MQ below (va_Qi (fun r u => r = Z ∧ u = M) (Wd D ad cy A g q) A) ([.ref (ad a0), .int x1]).toArray s 0 0 A) (F0 m 7 ls []) := by
    intro n1
    induction n1 with
    | zero => intro y1_0 y1_1 y1_2 y1_3 y1_4 ky1_0 H locs h; exact absurd h (by simp [f_X0_yearOfDispute_L7])
    | succ n1 ih1 =>
      intro y1_0 y1_1 y1_2 y1_3 y1_4 ky1_0 H locs h hP hD hT hS ls hl
      rw [f_X0_yearOfDispute_L7] at h
      refine lv_iload hx hb dX0_yearOfDispute_7 (lv_at hl 4 rfl) ?_
      refine lv_bipush (v := 100) hx hb dX0_yearOfDispute_9 rfl ?_
      refine lv_icmp_ge (tgt := 41) hx hb dX0_yearOfDispute_11 rfl (fun c2 => ?_) (fun c2 => ?_)
      · replace h := ite_t c2 h
        refine lv_iload_n hx hb dX0_yearOfDispute_41 rfl (lv_at hl 2 rfl) ?_
        exact r_iret hx hb hr hlocks hP hK hD hT hG hS (Option.some.inj h) rfl dX0_yearOfDispute_42
      · replace h := ite_f c2 h
        refine lv_aload_n hx hb dX0_yearOfDispute_14 rfl (lv_at hl 0 rfl) ?_
        refine lv_iload_n hx hb dX0_yearOfDispute_15 rfl (lv_at hl 1 rfl) ?_
        refine lv_iload hx hb dX0_yearOfDispute_16 (lv_at hl 4 rfl) ?_
        obtain ⟨z3, h3, h⟩ := ob_some h
        refine k_i (va_runV (As := [.int y1_1, .int y1_4]) (rest := []) ⟨hx, hb, hml, hown, hts⟩ (c_X0_spread (l := l) M y1_0 y1_1 y1_4 ky1_0 h3) (cwV 2 hts gX0_yearOfDispute_X0_spread rfl rfl rfl hdV_X0_spread ⟨Nat.le_of_ble_eq_true rfl, Nat.le_of_ble_eq_true rfl⟩) (pV (T := TX0) hP hK hD hT hG hS ky1_0 (by decide) rfl) rfl rfl hl.1 rfl (lv_room (Nat.le_of_ble_eq_true rfl)) dX0_yearOfDispute_18 ⟨Nat.zero_le _, Nat.zero_le _⟩) hS (fun H locs hP hD hT hS => ?_)
        refine lv_istore (lv' := [(5, .int z3), (0, .ref (ad y1_0)), (1, .int y1_1), (2, .int y1_2), (3, .int y1_3), (4, .int y1_4)]) hx hb dX0_yearOfDispute_21 hl (by decide) rfl (fun ls hl => ?_)
        refine lv_iload hx hb dX0_yearOfDispute_23 (lv_at hl 0 rfl) ?_
        refine lv_iload_n hx hb dX0_yearOfDispute_25 rfl (lv_at hl 4 rfl) ?_
        refine lv_icmp_le (tgt := 35) hx hb dX0_yearOfDispute_26 rfl (fun c4 => ?_) (fun c4 => ?_)
        · replace h := ite_t c4 h
          refine lv_iinc (v := y1_4 + 1) (lv' := [(4, .int (y1_4 + 1)), (5, .int z3), (0, .ref (ad y1_0)), (1, .int y1_1), (2, .int y1_2), (3, .int y1_3)]) hx hb dX0_yearOfDispute_35 hl (k := 5) rfl rfl (by decide) rfl (fun ls hl => ?_)
          refine lv_goto (tgt := 7) hx hb dX0_yearOfDispute_38 rfl ?_
          exact ih1 y1_0 y1_1 y1_2 y1_3 (y1_4 + 1) ky1_0 _ _ h hP hD hT hS ls (lv_sub hl [2, 3, 4, 5, 0] rfl)
        · replace h := ite_f c4 h
          refine lv_iload hx hb dX0_yearOfDispute_29 (lv_at hl 5 rfl) ?_
          refine lv_istore_n (lv' := [(2, .int y1_4), (5, .int z3), (0, .ref (ad y1_0)), (1, .int y1_1), (3, .int y1_3), (4, .int y1_4)]) hx hb dX0_yearOfDispute_31 rfl hl (by decide) rfl (fun ls hl => ?_)
          refine lv_iload hx hb dX0_yearOfDispute_32 (lv_at hl 1 rfl) ?_
          refine lv_istore_n (lv' := [(3, .int z3), (2, .int y1_4), (5, .int z3), (0, .ref (ad y1_0)), (1, .int y1_1), (4, .int y1_4)]) hx hb dX0_yearOfDispute_34 rfl hl (by decide) rfl (fun ls hl => ?_)
          refine lv_iinc (v := y1_4 + 1) (lv' := [(4, .int (y1_4 + 1)), (3, .int z3), (2, .int y1_4), (5, .int z3), (0, .ref (ad y1_0)), (1, .int y1_1)]) hx hb dX0_yearOfDispute_35 hl (k := 5) rfl rfl (by decide) rfl (fun ls hl => ?_)
          refine lv_goto (tgt := 7) hx hb dX0_yearOfDispute_38 rfl ?_
          exact ih1 y1_0 y1_1 y1_4 z3 (y1_4 + 1) ky1_0 _ _ h hP hD hT hS ls (lv_sub hl [4, 5, 2, 1, 0] rfl)
  exact L1 FU a0 x1 0 0 0 k0 _ _ h hP hD hT hS ls (lv_sub hl [3, 4, 2, 1, 0] rfl)
set_option maxHeartbeats 4000000 in
set_option maxRecDepth 100000 in
theorem c_X0_inhabitants {l : Launch} {D : va_G} {ad : Nat → Nat} {cy : Nat → ClassId} {A : Nat → Prop} {g : CG} {q : SE} (M : MM) (a0 : Nat) (x1 : Int32) (k0 : ok g a0 0 0) {Z : Int32} (h : f_X0_inhabitants M a0 x1 = some Z) : Met l yX0_inhabitants wsX0_inhabitants ({ frames := 1, cells := 0, slots := 0, locals := 23 }) (va_Pc [.ref (ad a0), .int x1] (Wd D ad cy A g q M)) (va_Qi (fun r u => r = Z ∧ u = M) (Wd D ad cy A g q) A) 0 0 A := by
  refine Met.ofW (cc := cX0_inhabitants) (maxL := 2) (ret := (some .int)) (by decide) rfl ?_
  intro p e s m args below meth c s₁ B hml hv
  obtain ⟨rfl, hP, hK, hD, hT, hG⟩ := hv
  have hx := B.exec
  have hb := B.bytes
  have hr := B.returns
  have hts := atoms_spec (ws := wsX0_inhabitants) B.pre
  have hown : s.vm.findClass RX0 = some m.cls := findClass_of_methodNamed B.named
  have hlocks := B.notSynchronized
  have in0 : ∀ w ∈ u_ws RX0 TX0 17, w ∈ wsX0_inhabitants := fun w h => List.mem_cons_of_mem _ (List.mem_append_right _ h)
  have hS : va_S A s.heap s.heap [] := va_S.rf
  have hl := lv_entry ([.ref (ad a0), .int x1]) (n := 2) (Nat.le_of_ble_eq_true rfl)
  rw [lg_entry_eq]
  generalize (lg_sl ([.ref (ad a0), .int x1]) ++ List.replicate (2 - (lg_sl ([.ref (ad a0), .int x1])).length) Slot.unset).toArray = ls at hl ⊢
  have hl : lv_has ls 2 [(0, .ref (ad a0)), (1, .int x1)] := hl
  unfold f_X0_inhabitants at h
  refine lv_aload_n hx hb dX0_inhabitants_0 rfl (lv_at hl 0 rfl) ?_
  refine r_get (T := TX0) (v := .int (gI M a0 12)) hx hb hts in0 hown hK hP k0 (by decide) rfl 12 (by decide) (hts (.fieldLink RX0 235 "StoneWalk$Island" "fields" "I") (List.mem_of_getElem? (i := 1) (by decide +kernel))) rfl (t := 0) rfl rfl dX0_inhabitants_1 ?_
  refine lv_aload_n hx hb dX0_inhabitants_4 rfl (lv_at hl 0 rfl) ?_
  refine r_get (T := TX0) (v := .int (gI M a0 13)) hx hb hts in0 hown hK hP k0 (by decide) rfl 13 (by decide) (hts (.fieldLink RX0 238 "StoneWalk$Island" "feeds" "I") (List.mem_of_getElem? (i := 2) (by decide +kernel))) rfl (t := 0) rfl rfl dX0_inhabitants_5 ?_
  refine lv_imul hx hb dX0_inhabitants_8 ?_
  refine lv_aload_n hx hb dX0_inhabitants_9 rfl (lv_at hl 0 rfl) ?_
  refine r_get (T := TX0) (v := .int (gI M a0 14)) hx hb hts in0 hown hK hP k0 (by decide) rfl 14 (by decide) (hts (.fieldLink RX0 241 "StoneWalk$Island" "houses" "I") (List.mem_of_getElem? (i := 3) (by decide +kernel))) rfl (t := 0) rfl rfl dX0_inhabitants_10 ?_
  refine lv_iload_n hx hb dX0_inhabitants_13 rfl (lv_at hl 1 rfl) ?_
  refine lv_if_eq (tgt := 24) hx hb dX0_inhabitants_14 rfl (fun c1 => ?_) (fun c1 => ?_)
  · replace h := ite_t c1 h
    refine lv_aload_n hx hb dX0_inhabitants_24 rfl (lv_at hl 0 rfl) ?_
    refine r_get (T := TX0) (v := .int (gI M a0 15)) hx hb hts in0 hown hK hP k0 (by decide) rfl 15 (by decide) (hts (.fieldLink RX0 247 "StoneWalk$Island" "holdsLeast" "I") (List.mem_of_getElem? (i := 5) (by decide +kernel))) rfl (t := 0) rfl rfl dX0_inhabitants_25 ?_
    refine lv_imul hx hb dX0_inhabitants_28 ?_
    refine va_mmin hx hb (hml.trans hl.1.symm) hown (hts (.methodLink RX0 200 Lib.Math.min.name) (List.mem_of_getElem? (i := 6) (by decide +kernel))) (hts (.static Lib.Math.min.name) (List.mem_of_getElem? (i := 7) (by decide +kernel))) (hts (.initialized "java/lang/Math") (List.mem_of_getElem? (i := 8) (by decide +kernel))) (hts (.code Lib.Math.min.name Lib.Math.min.code 2 (some .int)) (List.mem_of_getElem? (i := 9) (by decide +kernel))) (Nat.le_of_ble_eq_true rfl) (Nat.le_of_ble_eq_true rfl) (Nat.zero_le _) (Nat.zero_le _) dX0_inhabitants_29 ?_
    exact r_iret hx hb hr hlocks hP hK hD hT hG hS (Option.some.inj h) rfl dX0_inhabitants_32
  · replace h := ite_f c1 h
    refine lv_aload_n hx hb dX0_inhabitants_17 rfl (lv_at hl 0 rfl) ?_
    refine r_get (T := TX0) (v := .int (gI M a0 16)) hx hb hts in0 hown hK hP k0 (by decide) rfl 16 (by decide) (hts (.fieldLink RX0 244 "StoneWalk$Island" "holdsMost" "I") (List.mem_of_getElem? (i := 4) (by decide +kernel))) rfl (t := 0) rfl rfl dX0_inhabitants_18 ?_
    refine lv_goto (tgt := 28) hx hb dX0_inhabitants_21 rfl ?_
    refine lv_imul hx hb dX0_inhabitants_28 ?_
    refine va_mmin hx hb (hml.trans hl.1.symm) hown (hts (.methodLink RX0 200 Lib.Math.min.name) (List.mem_of_getElem? (i := 6) (by decide +kernel))) (hts (.static Lib.Math.min.name) (List.mem_of_getElem? (i := 7) (by decide +kernel))) (hts (.initialized "java/lang/Math") (List.mem_of_getElem? (i := 8) (by decide +kernel))) (hts (.code Lib.Math.min.name Lib.Math.min.code 2 (some .int)) (List.mem_of_getElem? (i := 9) (by decide +kernel))) (Nat.le_of_ble_eq_true rfl) (Nat.le_of_ble_eq_true rfl) (Nat.zero_le _) (Nat.zero_le _) dX0_inhabitants_29 ?_
    exact r_iret hx hb hr hlocks hP hK hD hT hG hS (Option.some.inj h) rfl dX0_inhabitants_32
set_option maxHeartbeats 4000000 in
set_option maxRecDepth 100000 in
theorem c_X0_clearlyLaid {l : Launch} {D : va_G} {ad : Nat → Nat} {cy : Nat → ClassId} {A : Nat → Prop} {g : CG} {q : SE} (M : MM) (a0 : Nat) (a1 : Nat) (x2 : Int32) (k0 : ok g a0 0 0) (k1 : ok g a1 10 0) {Z : Int32} (h : f_X0_clearlyLaid M a0 a1 x2 = some Z) : Met l yX0_clearlyLaid wsX0_clearlyLaid ({ frames := 2, cells := 0, slots := 0, locals := 44 }) (va_Pc [.ref (ad a0), .ref (ad a1), .int x2] (Wd D ad cy A g q M)) (va_Qi (fun r u => r = Z ∧ u = M) (Wd D ad cy A g q) A) 0 0 A := by
  refine Met.ofW (cc := cX0_clearlyLaid) (maxL := 6) (ret := (some .int)) (by decide) rfl ?_
  intro p e s m args below meth c s₁ B hml hv
  obtain ⟨rfl, hP, hK, hD, hT, hG⟩ := hv
  have hx := B.exec
  have hb := B.bytes
  have hr := B.returns
  have hts := atoms_spec (ws := wsX0_clearlyLaid) B.pre
  have hown : s.vm.findClass RX0 = some m.cls := findClass_of_methodNamed B.named
  have hlocks := B.notSynchronized
  have in5 : ∀ w ∈ u_ws RX5 TX5 8, w ∈ wsX0_clearlyLaid := fun w h => List.mem_cons_of_mem _ (List.mem_append_left _ (List.mem_append_left _ (List.mem_append_right _ h)))
  have hS : va_S A s.heap s.heap [] := va_S.rf
  have hl := lv_entry ([.ref (ad a0), .ref (ad a1), .int x2]) (n := 6) (Nat.le_of_ble_eq_true rfl)
  rw [lg_entry_eq]
  generalize (lg_sl ([.ref (ad a0), .ref (ad a1), .int x2]) ++ List.replicate (6 - (lg_sl ([.ref (ad a0), .ref (ad a1), .int x2])).length) Slot.unset).toArray = ls at hl ⊢
  have hl : lv_has ls 6 [(0, .ref (ad a0)), (1, .ref (ad a1)), (2, .int x2)] := hl
  unfold f_X0_clearlyLaid at h
  refine lv_iconst (v := 0) hx hb dX0_clearlyLaid_0 rfl ?_
  refine lv_istore_n (lv' := [(3, .int 0), (0, .ref (ad a0)), (1, .ref (ad a1)), (2, .int x2)]) hx hb dX0_clearlyLaid_1 rfl hl (by decide) rfl (fun ls hl => ?_)
  refine lv_iconst (v := 0) hx hb dX0_clearlyLaid_2 rfl ?_
  refine lv_istore (lv' := [(4, .int 0), (3, .int 0), (0, .ref (ad a0)), (1, .ref (ad a1)), (2, .int x2)]) hx hb dX0_clearlyLaid_3 hl (by decide) rfl (fun ls hl => ?_)
  have L1 : ∀ n1 : Nat, ∀ (y1_0 : Nat) (y1_1 : Nat) (y1_2 : Int32) (y1_3 : Int32) (y1_4 : Int32) (ky1_0 : ok g y1_0 0 0) (ky1_1 : ok g y1_1 10 0) (H : Heap) (locs : List Loc), f_X0_clearlyLaid_L5 n1 M y1_0 y1_1 y1_2 y1_3 y1_4 = some Z → va_P D vwCl (wd ad cy g M) H → va_D A (wd ad cy g M) → WT g M → va_S A s.heap H locs → ∀ (ls : Array Slot), lv_has ls 6 [(0, .ref (ad y1_0)), (1, .ref (ad y1_1)), (2, .int y1_2), (3, .int y1_3), (4, .int y1_4)] → W p l e ((headSpec wsX0_clearlyLaid ({ frames := 2, cells := 0, slots := 0, locals := 44 })).room) s m (([.ref (ad a0), .ref (ad a1), .int x2] : List Value).toArray) below meth c H locs 0 0 (MQ below (va_Qi (fun r u => r = Z ∧ u = M) (Wd D ad cy A g q) A) ([.ref (ad a0), .ref (ad a1), .int x2]).toArray s 0 0 A) (F0 m 5 ls []) := by
    intro n1
    induction n1 with
    | zero => intro y1_0 y1_1 y1_2 y1_3 y1_4 ky1_0 ky1_1 H locs h; exact absurd h (by simp [f_X0_clearlyLaid_L5])
    | succ n1 ih1 =>
      intro y1_0 y1_1 y1_2 y1_3 y1_4 ky1_0 ky1_1 H locs h hP hD hT hS ls hl
      rw [f_X0_clearlyLaid_L5] at h
      refine lv_iload hx hb dX0_clearlyLaid_5 (lv_at hl 4 rfl) ?_
      refine lv_aload_n hx hb dX0_clearlyLaid_7 rfl (lv_at hl 0 rfl) ?_
      refine lv_iconst (v := 2) hx hb dX0_clearlyLaid_8 rfl ?_
      obtain ⟨z2, h2, h⟩ := ob_some h
      refine k_i (va_runV (As := [.int 2]) (rest := [.int y1_4]) ⟨hx, hb, hml, hown, hts⟩ (c_X0_count (l := l) M y1_0 2 ky1_0 h2) (cwV 1 hts gX0_clearlyLaid_X0_count rfl rfl rfl hdV_X0_count ⟨Nat.le_of_ble_eq_true rfl, Nat.le_of_ble_eq_true rfl⟩) (pV (T := TX0) hP hK hD hT hG hS ky1_0 (by decide) rfl) rfl rfl hl.1 rfl (lv_room (Nat.le_of_ble_eq_true rfl)) dX0_clearlyLaid_9 ⟨Nat.zero_le _, Nat.zero_le _⟩) hS (fun H locs hP hD hT hS => ?_)
      refine lv_icmp_ge (tgt := 71) hx hb dX0_clearlyLaid_12 rfl (fun c3 => ?_) (fun c3 => ?_)
      · replace h := ite_t c3 h
        refine lv_iconst (v := (-1)) hx hb dX0_clearlyLaid_71 rfl ?_
        exact r_iret hx hb hr hlocks hP hK hD hT hG hS (Option.some.inj h) rfl dX0_clearlyLaid_72
      · replace h := ite_f c3 h
        refine lv_aload_n hx hb dX0_clearlyLaid_15 rfl (lv_at hl 0 rfl) ?_
        refine lv_iload hx hb dX0_clearlyLaid_16 (lv_at hl 4 rfl) ?_
        obtain ⟨z4, h4, h⟩ := ob_some h
        refine k_q (va_runV (As := [.int y1_4]) (rest := []) ⟨hx, hb, hml, hown, hts⟩ (c_X0_statueAt (l := l) M y1_0 y1_4 ky1_0 h4) (cwV 1 hts gX0_clearlyLaid_X0_statueAt rfl rfl rfl hdV_X0_statueAt ⟨Nat.le_of_ble_eq_true rfl, Nat.le_of_ble_eq_true rfl⟩) (pV (T := TX0) hP hK hD hT hG hS ky1_0 (by decide) rfl) rfl rfl hl.1 rfl (lv_room (Nat.le_of_ble_eq_true rfl)) dX0_clearlyLaid_18 ⟨Nat.zero_le _, Nat.zero_le _⟩) hS (fun H locs hq4 hP hD hT hS => ?_)
        rcases hN4 : z4 with _ | b4
        · replace h := oc_n hN4 h
          show W _ _ _ _ _ _ _ _ _ _ _ _ _ _ _ (F0 _ _ _ (.null :: []))
          refine lv_astoreN (lv' := [(5, .null), (0, .ref (ad y1_0)), (1, .ref (ad y1_1)), (2, .int y1_2), (3, .int y1_3), (4, .int y1_4)]) hx hb dX0_clearlyLaid_21 hl (by decide) rfl (fun ls hl => ?_)
          refine lv_aloadN hx hb dX0_clearlyLaid_23 (lv_at hl 0 rfl) ?_
          refine lv_ifnullN (tgt := 65) hx hb dX0_clearlyLaid_25 rfl ?_
          refine lv_iinc (v := y1_4 + 1) (lv' := [(4, .int (y1_4 + 1)), (5, .null), (0, .ref (ad y1_0)), (1, .ref (ad y1_1)), (2, .int y1_2), (3, .int y1_3)]) hx hb dX0_clearlyLaid_65 hl (k := 5) rfl rfl (by decide) rfl (fun ls hl => ?_)
          refine lv_goto (tgt := 5) hx hb dX0_clearlyLaid_68 rfl ?_
          exact ih1 y1_0 y1_1 y1_2 y1_3 (y1_4 + 1) ky1_0 ky1_1 _ _ h hP hD hT hS ls (lv_sub hl [2, 3, 4, 5, 0] rfl)
        · replace h := oc_s hN4 h
          have kb4 := hq4 _ hN4
          show W _ _ _ _ _ _ _ _ _ _ _ _ _ _ _ (F0 _ _ _ (.ref (ad b4) :: []))
          refine lv_astore (lv' := [(5, .ref (ad b4)), (0, .ref (ad y1_0)), (1, .ref (ad y1_1)), (2, .int y1_2), (3, .int y1_3), (4, .int y1_4)]) hx hb dX0_clearlyLaid_21 hl (by decide) rfl (fun ls hl => ?_)
          refine lv_aload hx hb dX0_clearlyLaid_23 (lv_at hl 0 rfl) ?_
          refine lv_ifnull hx hb dX0_clearlyLaid_25 ?_
          refine lv_aload hx hb dX0_clearlyLaid_28 (lv_at hl 0 rfl) ?_
          obtain ⟨z5, h5, h⟩ := ob_some h
          refine k_z (va_runV (As := []) (rest := []) ⟨hx, hb, hml, hown, hts⟩ (c_X5_isLying (l := l) M b4 kb4 h5) (cwV 0 hts gX0_clearlyLaid_X5_isLying rfl rfl rfl hdV_X5_isLying ⟨Nat.le_of_ble_eq_true rfl, Nat.le_of_ble_eq_true rfl⟩) (pV (T := TX5) hP hK hD hT hG hS kb4 (by decide) rfl) rfl rfl hl.1 rfl (lv_room (Nat.le_of_ble_eq_true rfl)) dX0_clearlyLaid_30 ⟨Nat.zero_le _, Nat.zero_le _⟩) hS (fun H locs hz5 hP hD hT hS => ?_)
          refine lv_if_eq (tgt := 65) hx hb dX0_clearlyLaid_33 rfl (fun c6 => ?_) (fun c6 => ?_)
          · replace h := ite_t c6 h
            refine lv_iinc (v := y1_4 + 1) (lv' := [(4, .int (y1_4 + 1)), (5, .ref (ad b4)), (0, .ref (ad y1_0)), (1, .ref (ad y1_1)), (2, .int y1_2), (3, .int y1_3)]) hx hb dX0_clearlyLaid_65 hl (k := 5) rfl rfl (by decide) rfl (fun ls hl => ?_)
            refine lv_goto (tgt := 5) hx hb dX0_clearlyLaid_68 rfl ?_
            exact ih1 y1_0 y1_1 y1_2 y1_3 (y1_4 + 1) ky1_0 ky1_1 _ _ h hP hD hT hS ls (lv_sub hl [2, 3, 4, 5, 0] rfl)
          · replace h := ite_f c6 h
            refine lv_aload_n hx hb dX0_clearlyLaid_36 rfl (lv_at hl 2 rfl) ?_
            refine lv_aload hx hb dX0_clearlyLaid_37 (lv_at hl 0 rfl) ?_
            refine r_get (T := TX5) (v := .int (gI M b4 7)) hx hb hts in5 hown hK hP kb4 (by decide) rfl 7 (by decide) (hts (.fieldLink RX0 104 "StoneWalk$Stone" "slope" "I") (List.mem_of_getElem? (i := 1) (by decide +kernel))) rfl (t := 0) rfl rfl dX0_clearlyLaid_39 ?_
            refine lv_aload hx hb dX0_clearlyLaid_42 (lv_at hl 0 rfl) ?_
            refine r_get (T := TX5) (v := .int (gI M b4 4)) hx hb hts in5 hown hK hP kb4 (by decide) rfl 4 (by decide) (hts (.fieldLink RX0 107 "StoneWalk$Stone" "lie" "I") (List.mem_of_getElem? (i := 2) (by decide +kernel))) rfl (t := 0) rfl rfl dX0_clearlyLaid_44 ?_
            obtain ⟨z7, h7, h⟩ := ob_some h
            refine k_i (va_runV (As := [.int (gI M b4 7), .int (gI M b4 4)]) (rest := []) ⟨hx, hb, hml, hown, hts⟩ (c_X10_tenths (l := l) M y1_1 (gI M b4 7) (gI M b4 4) ky1_1 h7) (cwV 2 hts gX0_clearlyLaid_X10_tenths rfl rfl rfl hdV_X10_tenths ⟨Nat.le_of_ble_eq_true rfl, Nat.le_of_ble_eq_true rfl⟩) (pV (T := TX10) hP hK hD hT hG hS ky1_1 (by decide) rfl) rfl rfl hl.1 rfl (lv_room (Nat.le_of_ble_eq_true rfl)) dX0_clearlyLaid_47 ⟨Nat.zero_le _, Nat.zero_le _⟩) hS (fun H locs hP hD hT hS => ?_)
            refine lv_iconst (v := 5) hx hb dX0_clearlyLaid_50 rfl ?_
            refine lv_icmp_lt (tgt := 65) hx hb dX0_clearlyLaid_51 rfl (fun c8 => ?_) (fun c8 => ?_)
            · replace h := ite_t c8 h
              refine lv_iinc (v := y1_4 + 1) (lv' := [(4, .int (y1_4 + 1)), (5, .ref (ad b4)), (0, .ref (ad y1_0)), (1, .ref (ad y1_1)), (2, .int y1_2), (3, .int y1_3)]) hx hb dX0_clearlyLaid_65 hl (k := 5) rfl rfl (by decide) rfl (fun ls hl => ?_)
              refine lv_goto (tgt := 5) hx hb dX0_clearlyLaid_68 rfl ?_
              exact ih1 y1_0 y1_1 y1_2 y1_3 (y1_4 + 1) ky1_0 ky1_1 _ _ h hP hD hT hS ls (lv_sub hl [2, 3, 4, 5, 0] rfl)
            · replace h := ite_f c8 h
              refine lv_iload_n hx hb dX0_clearlyLaid_54 rfl (lv_at hl 4 rfl) ?_
              refine lv_iload_n hx hb dX0_clearlyLaid_55 rfl (lv_at hl 3 rfl) ?_
              refine lv_icmp_ne (tgt := 62) hx hb dX0_clearlyLaid_56 rfl (fun c9 => ?_) (fun c9 => ?_)
              · replace h := ite_f c9 h
                refine lv_iinc (v := y1_3 + 1) (lv' := [(3, .int (y1_3 + 1)), (5, .ref (ad b4)), (0, .ref (ad y1_0)), (1, .ref (ad y1_1)), (2, .int y1_2), (4, .int y1_4)]) hx hb dX0_clearlyLaid_62 hl (k := 4) rfl rfl (by decide) rfl (fun ls hl => ?_)
                refine lv_iinc (v := y1_4 + 1) (lv' := [(4, .int (y1_4 + 1)), (3, .int (y1_3 + 1)), (5, .ref (ad b4)), (0, .ref (ad y1_0)), (1, .ref (ad y1_1)), (2, .int y1_2)]) hx hb dX0_clearlyLaid_65 hl (k := 5) rfl rfl (by decide) rfl (fun ls hl => ?_)
                refine lv_goto (tgt := 5) hx hb dX0_clearlyLaid_68 rfl ?_
                exact ih1 y1_0 y1_1 y1_2 (y1_3 + 1) (y1_4 + 1) ky1_0 ky1_1 _ _ h hP hD hT hS ls (lv_sub hl [3, 4, 5, 1, 0] rfl)
              · replace h := ite_t c9 h
                refine lv_iload hx hb dX0_clearlyLaid_59 (lv_at hl 5 rfl) ?_
                exact r_iret hx hb hr hlocks hP hK hD hT hG hS (Option.some.inj h) rfl dX0_clearlyLaid_61
  exact L1 FU a0 a1 x2 0 0 k0 k1 _ _ h hP hD hT hS ls (lv_sub hl [2, 3, 4, 1, 0] rfl)
set_option maxHeartbeats 4000000 in
set_option maxRecDepth 100000 in
theorem c_X10_duration {l : Launch} {D : va_G} {ad : Nat → Nat} {cy : Nat → ClassId} {A : Nat → Prop} {g : CG} {q : SE} (M : MM) (a0 : Nat) (x1 : Int32) (x2 : Int32) (x3 : Int32) (k0 : ok g a0 10 0) {Z : Int32} (h : f_X10_duration M a0 x1 x2 x3 = some Z) : Met l yX10_duration wsX10_duration ({ frames := 2, cells := 0, slots := 0, locals := 46 }) (va_Pc [.ref (ad a0), .int x1, .int x2, .int x3] (Wd D ad cy A g q M)) (va_Qi (fun r u => r = Z ∧ u = M) (Wd D ad cy A g q) A) 0 0 A := by
  refine Met.ofW (cc := cX10_duration) (maxL := 5) (ret := (some .int)) (by decide) rfl ?_
  intro p e s m args below meth c s₁ B hml hv
  obtain ⟨rfl, hP, hK, hD, hT, hG⟩ := hv
  have hx := B.exec
  have hb := B.bytes
  have hr := B.returns
  have hts := atoms_spec (ws := wsX10_duration) B.pre
  have hown : s.vm.findClass RX10 = some m.cls := findClass_of_methodNamed B.named
  have hlocks := B.notSynchronized
  have in10 : ∀ w ∈ u_ws RX10 TX10 3, w ∈ wsX10_duration := fun w h => List.mem_cons_of_mem _ (List.mem_append_right _ h)
  have hS : va_S A s.heap s.heap [] := va_S.rf
  have hl := lv_entry ([.ref (ad a0), .int x1, .int x2, .int x3]) (n := 5) (Nat.le_of_ble_eq_true rfl)
  rw [lg_entry_eq]
  generalize (lg_sl ([.ref (ad a0), .int x1, .int x2, .int x3]) ++ List.replicate (5 - (lg_sl ([.ref (ad a0), .int x1, .int x2, .int x3])).length) Slot.unset).toArray = ls at hl ⊢
  have hl : lv_has ls 5 [(0, .ref (ad a0)), (1, .int x1), (2, .int x2), (3, .int x3)] := hl
  unfold f_X10_duration at h
  refine r_sget (t := 2) hx hb hG hS hown (by decide) rfl (hts (.fieldLink RX10 62 "StoneWalk$Way" "BASE" "[I") (List.mem_of_getElem? (i := 1) (by decide +kernel))) dX10_duration_0 ?_
  refine lv_aload_n hx hb dX10_duration_3 rfl (lv_at hl 0 rfl) ?_
  refine r_get (T := TX10) (v := .int (gI M a0 0)) hx hb hts in10 hown hK hP k0 (by decide) rfl 0 (by decide) (hts (.fieldLink RX10 9 "StoneWalk$Way" "kind" "I") (List.mem_of_getElem? (i := 2) (by decide +kernel))) rfl (t := 0) rfl rfl dX10_duration_4 ?_
  obtain ⟨z1, h1, h⟩ := ob_some h
  refine k_i (va_runSN (As := [.ref (q.1 2), .int (gI M a0 0)]) (rest := []) ⟨hx, hb, hml, hown, hts⟩ (c_X11_entry_s (l := l) M 2 (gI M a0 0) (by decide) h1) ⟨va_cnB 2 hts gX10_duration_X11_entry_n49 rfl rfl rfl (hG.2.1 _ (List.mem_of_getElem? (i := 16) rfl)) (hts (.initialized RX11) (List.mem_of_getElem? (i := 8) (by decide +kernel))) hdS_X11_entry ⟨Nat.le_of_ble_eq_true rfl, Nat.le_of_ble_eq_true rfl⟩, (hts (.static yX11_entry) (List.mem_of_getElem? (i := 7) (by decide +kernel))), trivial⟩ (pS hP hK hD hT hG hS) rfl rfl hl.1 rfl (lv_room (Nat.le_of_ble_eq_true rfl)) dX10_duration_7 ⟨Nat.zero_le _, Nat.zero_le _⟩) hS (fun H locs hP hD hT hS => ?_)
  refine lv_istore (lv' := [(4, .int z1), (0, .ref (ad a0)), (1, .int x1), (2, .int x2), (3, .int x3)]) hx hb dX10_duration_10 hl (by decide) rfl (fun ls hl => ?_)
  refine lv_iload hx hb dX10_duration_12 (lv_at hl 0 rfl) ?_
  refine lv_aload_n hx hb dX10_duration_14 rfl (lv_at hl 1 rfl) ?_
  refine lv_iload_n hx hb dX10_duration_15 rfl (lv_at hl 2 rfl) ?_
  refine lv_iload_n hx hb dX10_duration_16 rfl (lv_at hl 3 rfl) ?_
  obtain ⟨z2, h2, h⟩ := ob_some h
  refine k_i (va_runV (As := [.int x1, .int x2]) (rest := [.int z1]) ⟨hx, hb, hml, hown, hts⟩ (c_X10_hands (l := l) M a0 x1 x2 k0 h2) (cwV 2 hts gX10_duration_X10_hands rfl rfl rfl hdV_X10_hands ⟨Nat.le_of_ble_eq_true rfl, Nat.le_of_ble_eq_true rfl⟩) (pV (T := TX10) hP hK hD hT hG hS k0 (by decide) rfl) rfl rfl hl.1 rfl (lv_room (Nat.le_of_ble_eq_true rfl)) dX10_duration_17 ⟨Nat.zero_le _, Nat.zero_le _⟩) hS (fun H locs hP hD hT hS => ?_)
  refine lv_imul hx hb dX10_duration_20 ?_
  refine lv_iload_n hx hb dX10_duration_21 rfl (lv_at hl 4 rfl) ?_
  obtain ⟨z3, h3, h⟩ := ob_some h
  refine k_i (va_runSN (As := [.int (z1 * z2), .int x3]) (rest := []) ⟨hx, hb, hml, hown, hts⟩ (c_X11_upwards (l := l) M (z1 * z2) x3 h3) ⟨va_cnB 2 hts gX10_duration_X11_upwards_n56 rfl rfl rfl (hG.2.1 _ (List.mem_of_getElem? (i := 17) rfl)) (hts (.initialized RX11) (List.mem_of_getElem? (i := 8) (by decide +kernel))) hdS_X11_upwards ⟨Nat.le_of_ble_eq_true rfl, Nat.le_of_ble_eq_true rfl⟩, (hts (.static yX11_upwards) (List.mem_of_getElem? (i := 17) (by decide +kernel))), trivial⟩ (pS hP hK hD hT hG hS) rfl rfl hl.1 rfl (lv_room (Nat.le_of_ble_eq_true rfl)) dX10_duration_22 ⟨Nat.zero_le _, Nat.zero_le _⟩) hS (fun H locs hP hD hT hS => ?_)
  refine lv_iload hx hb dX10_duration_25 (lv_at hl 0 rfl) ?_
  refine lv_iconst (v := 2) hx hb dX10_duration_27 rfl ?_
  refine lv_idiv hx hb dX10_duration_28 (by decide) ?_
  refine va_mmax hx hb (hml.trans hl.1.symm) hown (hts (.methodLink RX10 39 Lib.Math.max.name) (List.mem_of_getElem? (i := 3) (by decide +kernel))) (hts (.static Lib.Math.max.name) (List.mem_of_getElem? (i := 4) (by decide +kernel))) (hts (.initialized "java/lang/Math") (List.mem_of_getElem? (i := 5) (by decide +kernel))) (hts (.code Lib.Math.max.name Lib.Math.max.code 2 (some .int)) (List.mem_of_getElem? (i := 6) (by decide +kernel))) (Nat.le_of_ble_eq_true rfl) (Nat.le_of_ble_eq_true rfl) (Nat.zero_le _) (Nat.zero_le _) dX10_duration_29 ?_
  exact r_iret hx hb hr hlocks hP hK hD hT hG hS (Option.some.inj h) rfl dX10_duration_32
set_option maxHeartbeats 4000000 in
set_option maxRecDepth 100000 in
theorem c_X10_risk {l : Launch} {D : va_G} {ad : Nat → Nat} {cy : Nat → ClassId} {A : Nat → Prop} {g : CG} {q : SE} (M : MM) (a0 : Nat) (x1 : Int32) (x2 : Int32) (k0 : ok g a0 10 0) {Z : Int32} (h : f_X10_risk M a0 x1 x2 = some Z) : Met l yX10_risk wsX10_risk ({ frames := 1, cells := 0, slots := 0, locals := 23 }) (va_Pc [.ref (ad a0), .int x1, .int x2] (Wd D ad cy A g q M)) (va_Qi (fun r u => r = Z ∧ u = M) (Wd D ad cy A g q) A) 0 0 A := by
  refine Met.ofW (cc := cX10_risk) (maxL := 4) (ret := (some .int)) (by decide) rfl ?_
  intro p e s m args below meth c s₁ B hml hv
  obtain ⟨rfl, hP, hK, hD, hT, hG⟩ := hv
  have hx := B.exec
  have hb := B.bytes
  have hr := B.returns
  have hts := atoms_spec (ws := wsX10_risk) B.pre
  have hown : s.vm.findClass RX10 = some m.cls := findClass_of_methodNamed B.named
  have hlocks := B.notSynchronized
  have in10 : ∀ w ∈ u_ws RX10 TX10 3, w ∈ wsX10_risk := fun w h => List.mem_cons_of_mem _ (List.mem_append_right _ h)
  have hS : va_S A s.heap s.heap [] := va_S.rf
  have hl := lv_entry ([.ref (ad a0), .int x1, .int x2]) (n := 4) (Nat.le_of_ble_eq_true rfl)
  rw [lg_entry_eq]
  generalize (lg_sl ([.ref (ad a0), .int x1, .int x2]) ++ List.replicate (4 - (lg_sl ([.ref (ad a0), .int x1, .int x2])).length) Slot.unset).toArray = ls at hl ⊢
  have hl : lv_has ls 4 [(0, .ref (ad a0)), (1, .int x1), (2, .int x2)] := hl
  unfold f_X10_risk at h
  refine r_sget (t := 4) hx hb hG hS hown (by decide) rfl (hts (.fieldLink RX10 65 "StoneWalk$Way" "SWAY" "[I") (List.mem_of_getElem? (i := 1) (by decide +kernel))) dX10_risk_0 ?_
  refine lv_aload_n hx hb dX10_risk_3 rfl (lv_at hl 0 rfl) ?_
  refine r_get (T := TX10) (v := .int (gI M a0 0)) hx hb hts in10 hown hK hP k0 (by decide) rfl 0 (by decide) (hts (.fieldLink RX10 9 "StoneWalk$Way" "kind" "I") (List.mem_of_getElem? (i := 2) (by decide +kernel))) rfl (t := 0) rfl rfl dX10_risk_4 ?_
  obtain ⟨z1, h1, h⟩ := ob_some h
  refine k_i (va_runSN (As := [.ref (q.1 4), .int (gI M a0 0)]) (rest := []) ⟨hx, hb, hml, hown, hts⟩ (c_X11_entry_s (l := l) M 4 (gI M a0 0) (by decide) h1) ⟨va_cnB 2 hts gX10_risk_X11_entry_n49 rfl rfl rfl (hG.2.1 _ (List.mem_of_getElem? (i := 16) rfl)) (hts (.initialized RX11) (List.mem_of_getElem? (i := 14) (by decide +kernel))) hdS_X11_entry ⟨Nat.le_of_ble_eq_true rfl, Nat.le_of_ble_eq_true rfl⟩, (hts (.static yX11_entry) (List.mem_of_getElem? (i := 13) (by decide +kernel))), trivial⟩ (pS hP hK hD hT hG hS) rfl rfl hl.1 rfl (lv_room (Nat.le_of_ble_eq_true rfl)) dX10_risk_7 ⟨Nat.zero_le _, Nat.zero_le _⟩) hS (fun H locs hP hD hT hS => ?_)
  refine lv_iload_n hx hb dX10_risk_10 rfl (lv_at hl 2 rfl) ?_
  refine va_mabs hx hb (hml.trans hl.1.symm) hown (hts (.methodLink RX10 68 Lib.Math.abs.name) (List.mem_of_getElem? (i := 3) (by decide +kernel))) (hts (.static Lib.Math.abs.name) (List.mem_of_getElem? (i := 4) (by decide +kernel))) (hts (.initialized "java/lang/Math") (List.mem_of_getElem? (i := 5) (by decide +kernel))) (hts (.code Lib.Math.abs.name Lib.Math.abs.code 1 (some .int)) (List.mem_of_getElem? (i := 6) (by decide +kernel))) (Nat.le_of_ble_eq_true rfl) (Nat.le_of_ble_eq_true rfl) (Nat.zero_le _) (Nat.zero_le _) dX10_risk_11 ?_
  refine lv_imul hx hb dX10_risk_14 ?_
  refine lv_istore_n (lv' := [(3, .int (z1 * (if 0 ≤ x2 then x2 else 0 - x2))), (0, .ref (ad a0)), (1, .int x1), (2, .int x2)]) hx hb dX10_risk_15 rfl hl (by decide) rfl (fun ls hl => ?_)
  refine lv_aload_n hx hb dX10_risk_16 rfl (lv_at hl 1 rfl) ?_
  refine r_get (T := TX10) (v := .int (gI M a0 0)) hx hb hts in10 hown hK hP k0 (by decide) rfl 0 (by decide) (hts (.fieldLink RX10 9 "StoneWalk$Way" "kind" "I") (List.mem_of_getElem? (i := 2) (by decide +kernel))) rfl (t := 0) rfl rfl dX10_risk_17 ?_
  refine lv_if_ne (tgt := 34) hx hb dX10_risk_20 rfl (fun c2 => ?_) (fun c2 => ?_)
  · replace h := ite_f c2 h
    refine lv_iload_n hx hb dX10_risk_34 rfl (lv_at hl 0 rfl) ?_
    refine lv_bipush (v := 100) hx hb dX10_risk_35 rfl ?_
    refine va_mmin hx hb (hml.trans hl.1.symm) hown (hts (.methodLink RX10 71 Lib.Math.min.name) (List.mem_of_getElem? (i := 10) (by decide +kernel))) (hts (.static Lib.Math.min.name) (List.mem_of_getElem? (i := 11) (by decide +kernel))) (hts (.initialized "java/lang/Math") (List.mem_of_getElem? (i := 5) (by decide +kernel))) (hts (.code Lib.Math.min.name Lib.Math.min.code 2 (some .int)) (List.mem_of_getElem? (i := 12) (by decide +kernel))) (Nat.le_of_ble_eq_true rfl) (Nat.le_of_ble_eq_true rfl) (Nat.zero_le _) (Nat.zero_le _) dX10_risk_37 ?_
    exact r_iret hx hb hr hlocks hP hK hD hT hG hS (Option.some.inj h) rfl dX10_risk_40
  · replace h := ite_t c2 h
    refine lv_iload_n hx hb dX10_risk_23 rfl (lv_at hl 0 rfl) ?_
    refine lv_bipush (v := 10) hx hb dX10_risk_24 rfl ?_
    refine lv_iload_n hx hb dX10_risk_26 rfl (lv_at hl 2 rfl) ?_
    refine lv_isub hx hb dX10_risk_27 ?_
    refine lv_iconst (v := 0) hx hb dX10_risk_28 rfl ?_
    refine va_mmax hx hb (hml.trans hl.1.symm) hown (hts (.methodLink RX10 39 Lib.Math.max.name) (List.mem_of_getElem? (i := 7) (by decide +kernel))) (hts (.static Lib.Math.max.name) (List.mem_of_getElem? (i := 8) (by decide +kernel))) (hts (.initialized "java/lang/Math") (List.mem_of_getElem? (i := 5) (by decide +kernel))) (hts (.code Lib.Math.max.name Lib.Math.max.code 2 (some .int)) (List.mem_of_getElem? (i := 9) (by decide +kernel))) (Nat.le_of_ble_eq_true rfl) (Nat.le_of_ble_eq_true rfl) (Nat.zero_le _) (Nat.zero_le _) dX10_risk_29 ?_
    refine lv_iadd hx hb dX10_risk_32 ?_
    refine lv_istore_n (lv' := [(3, .int ((z1 * (if 0 ≤ x2 then x2 else 0 - x2)) + (if 10 - x1 < 0 then 0 else 10 - x1))), (0, .ref (ad a0)), (1, .int x1), (2, .int x2)]) hx hb dX10_risk_33 rfl hl (by decide) rfl (fun ls hl => ?_)
    refine lv_iload_n hx hb dX10_risk_34 rfl (lv_at hl 0 rfl) ?_
    refine lv_bipush (v := 100) hx hb dX10_risk_35 rfl ?_
    refine va_mmin hx hb (hml.trans hl.1.symm) hown (hts (.methodLink RX10 71 Lib.Math.min.name) (List.mem_of_getElem? (i := 10) (by decide +kernel))) (hts (.static Lib.Math.min.name) (List.mem_of_getElem? (i := 11) (by decide +kernel))) (hts (.initialized "java/lang/Math") (List.mem_of_getElem? (i := 5) (by decide +kernel))) (hts (.code Lib.Math.min.name Lib.Math.min.code 2 (some .int)) (List.mem_of_getElem? (i := 12) (by decide +kernel))) (Nat.le_of_ble_eq_true rfl) (Nat.le_of_ble_eq_true rfl) (Nat.zero_le _) (Nat.zero_le _) dX10_risk_37 ?_
    exact r_iret hx hb hr hlocks hP hK hD hT hG hS (Option.some.inj h) rfl dX10_risk_40
set_option maxHeartbeats 4000000 in
set_option maxRecDepth 100000 in
theorem c_X11_isCrowd {l : Launch} {D : va_G} {ad : Nat → Nat} {cy : Nat → ClassId} {A : Nat → Prop} {g : CG} {q : SE} (M : MM) (x0 : Int32) {Z : Int32} (h : f_X11_isCrowd M x0 = some Z) : Met l yX11_isCrowd wsX11_isCrowd ({ frames := 0, cells := 0, slots := 0, locals := 0 }) (va_Pc [.int x0] (Wd D ad cy A g q M)) (va_Qi (fun r u => r = Z ∧ u = M ∧ zb r) (Wd D ad cy A g q) A) 0 0 A := by
  refine Met.ofW (cc := cX11_isCrowd) (maxL := 1) (ret := (some .boolean)) (by decide) rfl ?_
  intro p e s m args below meth c s₁ B hml hv
  obtain ⟨rfl, hP, hK, hD, hT, hG⟩ := hv
  have hx := B.exec
  have hb := B.bytes
  have hr := B.returns
  have hts := atoms_spec (ws := wsX11_isCrowd) B.pre
  have hown : s.vm.findClass RX11 = some m.cls := findClass_of_methodNamed B.named
  have hlocks := B.notSynchronized
  have hS : va_S A s.heap s.heap [] := va_S.rf
  have hl := lv_entry ([.int x0]) (n := 1) (Nat.le_of_ble_eq_true rfl)
  rw [lg_entry_eq]
  generalize (lg_sl ([.int x0]) ++ List.replicate (1 - (lg_sl ([.int x0])).length) Slot.unset).toArray = ls at hl ⊢
  have hl : lv_has ls 1 [(0, .int x0)] := hl
  unfold f_X11_isCrowd at h
  refine lv_iload_n hx hb dX11_isCrowd_0 rfl (lv_at hl 0 rfl) ?_
  refine lv_iconst (v := 1) hx hb dX11_isCrowd_1 rfl ?_
  refine lv_icmp_lt (tgt := 16) hx hb dX11_isCrowd_2 rfl (fun c1 => ?_) (fun c1 => ?_)
  · replace h := ite_t c1 h
    refine lv_iconst (v := 0) hx hb dX11_isCrowd_16 rfl ?_
    exact r_zret hx hb hr hlocks hP hK hD hT hG hS zb_0 (Option.some.inj h) rfl dX11_isCrowd_17
  · replace h := ite_f c1 h
    refine lv_iload_n hx hb dX11_isCrowd_5 rfl (lv_at hl 0 rfl) ?_
    refine lv_sipush (v := 200) hx hb dX11_isCrowd_6 rfl ?_
    refine lv_icmp_gt (tgt := 16) hx hb dX11_isCrowd_9 rfl (fun c2 => ?_) (fun c2 => ?_)
    · replace h := ite_t c2 h
      refine lv_iconst (v := 0) hx hb dX11_isCrowd_16 rfl ?_
      exact r_zret hx hb hr hlocks hP hK hD hT hG hS zb_0 (Option.some.inj h) rfl dX11_isCrowd_17
    · replace h := ite_f c2 h
      refine lv_iconst (v := 1) hx hb dX11_isCrowd_12 rfl ?_
      refine lv_goto (tgt := 17) hx hb dX11_isCrowd_13 rfl ?_
      exact r_zret hx hb hr hlocks hP hK hD hT hG hS zb_1 (Option.some.inj h) rfl dX11_isCrowd_17
set_option maxHeartbeats 4000000 in
set_option maxRecDepth 100000 in
theorem c_X7_typeOf {l : Launch} {D : va_G} {ad : Nat → Nat} {cy : Nat → ClassId} {A : Nat → Prop} {g : CG} {q : SE} (M : MM) (x0 : Int32) {Z : Int32} (h : f_X7_typeOf M x0 = some Z) : Met l yX7_typeOf wsX7_typeOf ({ frames := 0, cells := 0, slots := 0, locals := 0 }) (va_Pc [.int x0] (Wd D ad cy A g q M)) (va_Qi (fun r u => r = Z ∧ u = M) (Wd D ad cy A g q) A) 0 0 A := by
  refine Met.ofW (cc := cX7_typeOf) (maxL := 1) (ret := (some .int)) (by decide) rfl ?_
  intro p e s m args below meth c s₁ B hml hv
  obtain ⟨rfl, hP, hK, hD, hT, hG⟩ := hv
  have hx := B.exec
  have hb := B.bytes
  have hr := B.returns
  have hts := atoms_spec (ws := wsX7_typeOf) B.pre
  have hown : s.vm.findClass RX7 = some m.cls := findClass_of_methodNamed B.named
  have hlocks := B.notSynchronized
  have hS : va_S A s.heap s.heap [] := va_S.rf
  have hl := lv_entry ([.int x0]) (n := 1) (Nat.le_of_ble_eq_true rfl)
  rw [lg_entry_eq]
  generalize (lg_sl ([.int x0]) ++ List.replicate (1 - (lg_sl ([.int x0])).length) Slot.unset).toArray = ls at hl ⊢
  have hl : lv_has ls 1 [(0, .int x0)] := hl
  unfold f_X7_typeOf at h
  refine lv_iload_n hx hb dX7_typeOf_0 rfl (lv_at hl 0 rfl) ?_
  refine lv_bipush (v := 97) hx hb dX7_typeOf_1 rfl ?_
  refine lv_icmp_lt (tgt := 14) hx hb dX7_typeOf_3 rfl (fun c1 => ?_) (fun c1 => ?_)
  · replace h := ite_t c1 h
    refine lv_iload_n hx hb dX7_typeOf_14 rfl (lv_at hl 0 rfl) ?_
    refine lv_bipush (v := 48) hx hb dX7_typeOf_15 rfl ?_
    refine lv_icmp_lt (tgt := 28) hx hb dX7_typeOf_17 rfl (fun c2 => ?_) (fun c2 => ?_)
    · replace h := ite_t c2 h
      refine lv_iload_n hx hb dX7_typeOf_28 rfl (lv_at hl 0 rfl) ?_
      refine lv_bipush (v := 59) hx hb dX7_typeOf_29 rfl ?_
      refine lv_icmp_eq (tgt := 40) hx hb dX7_typeOf_31 rfl (fun c3 => ?_) (fun c3 => ?_)
      · replace h := ite_t c3 h
        refine lv_iconst (v := 3) hx hb dX7_typeOf_40 rfl ?_
        refine lv_goto (tgt := 45) hx hb dX7_typeOf_41 rfl ?_
        exact r_iret hx hb hr hlocks hP hK hD hT hG hS (Option.some.inj h) rfl dX7_typeOf_45
      · replace h := ite_f c3 h
        refine lv_iload_n hx hb dX7_typeOf_34 rfl (lv_at hl 0 rfl) ?_
        refine lv_bipush (v := 44) hx hb dX7_typeOf_35 rfl ?_
        refine lv_icmp_ne (tgt := 44) hx hb dX7_typeOf_37 rfl (fun c4 => ?_) (fun c4 => ?_)
        · replace h := ite_f c4 h
          refine lv_iconst (v := 0) hx hb dX7_typeOf_44 rfl ?_
          exact r_iret hx hb hr hlocks hP hK hD hT hG hS (Option.some.inj h) rfl dX7_typeOf_45
        · replace h := ite_t c4 h
          refine lv_iconst (v := 3) hx hb dX7_typeOf_40 rfl ?_
          refine lv_goto (tgt := 45) hx hb dX7_typeOf_41 rfl ?_
          exact r_iret hx hb hr hlocks hP hK hD hT hG hS (Option.some.inj h) rfl dX7_typeOf_45
    · replace h := ite_f c2 h
      refine lv_iload_n hx hb dX7_typeOf_20 rfl (lv_at hl 0 rfl) ?_
      refine lv_bipush (v := 57) hx hb dX7_typeOf_21 rfl ?_
      refine lv_icmp_gt (tgt := 28) hx hb dX7_typeOf_23 rfl (fun c5 => ?_) (fun c5 => ?_)
      · replace h := ite_t c5 h
        refine lv_iload_n hx hb dX7_typeOf_28 rfl (lv_at hl 0 rfl) ?_
        refine lv_bipush (v := 59) hx hb dX7_typeOf_29 rfl ?_
        refine lv_icmp_eq (tgt := 40) hx hb dX7_typeOf_31 rfl (fun c6 => ?_) (fun c6 => ?_)
        · replace h := ite_t c6 h
          refine lv_iconst (v := 3) hx hb dX7_typeOf_40 rfl ?_
          refine lv_goto (tgt := 45) hx hb dX7_typeOf_41 rfl ?_
          exact r_iret hx hb hr hlocks hP hK hD hT hG hS (Option.some.inj h) rfl dX7_typeOf_45
        · replace h := ite_f c6 h
          refine lv_iload_n hx hb dX7_typeOf_34 rfl (lv_at hl 0 rfl) ?_
          refine lv_bipush (v := 44) hx hb dX7_typeOf_35 rfl ?_
          refine lv_icmp_ne (tgt := 44) hx hb dX7_typeOf_37 rfl (fun c7 => ?_) (fun c7 => ?_)
          · replace h := ite_f c7 h
            refine lv_iconst (v := 0) hx hb dX7_typeOf_44 rfl ?_
            exact r_iret hx hb hr hlocks hP hK hD hT hG hS (Option.some.inj h) rfl dX7_typeOf_45
          · replace h := ite_t c7 h
            refine lv_iconst (v := 3) hx hb dX7_typeOf_40 rfl ?_
            refine lv_goto (tgt := 45) hx hb dX7_typeOf_41 rfl ?_
            exact r_iret hx hb hr hlocks hP hK hD hT hG hS (Option.some.inj h) rfl dX7_typeOf_45
      · replace h := ite_f c5 h
        refine lv_iconst (v := 2) hx hb dX7_typeOf_26 rfl ?_
        exact r_iret hx hb hr hlocks hP hK hD hT hG hS (Option.some.inj h) rfl dX7_typeOf_27
  · replace h := ite_f c1 h
    refine lv_iload_n hx hb dX7_typeOf_6 rfl (lv_at hl 0 rfl) ?_
    refine lv_bipush (v := 122) hx hb dX7_typeOf_7 rfl ?_
    refine lv_icmp_gt (tgt := 14) hx hb dX7_typeOf_9 rfl (fun c8 => ?_) (fun c8 => ?_)
    · replace h := ite_t c8 h
      refine lv_iload_n hx hb dX7_typeOf_14 rfl (lv_at hl 0 rfl) ?_
      refine lv_bipush (v := 48) hx hb dX7_typeOf_15 rfl ?_
      refine lv_icmp_lt (tgt := 28) hx hb dX7_typeOf_17 rfl (fun c9 => ?_) (fun c9 => ?_)
      · replace h := ite_t c9 h
        refine lv_iload_n hx hb dX7_typeOf_28 rfl (lv_at hl 0 rfl) ?_
        refine lv_bipush (v := 59) hx hb dX7_typeOf_29 rfl ?_
        refine lv_icmp_eq (tgt := 40) hx hb dX7_typeOf_31 rfl (fun c10 => ?_) (fun c10 => ?_)
        · replace h := ite_t c10 h
          refine lv_iconst (v := 3) hx hb dX7_typeOf_40 rfl ?_
          refine lv_goto (tgt := 45) hx hb dX7_typeOf_41 rfl ?_
          exact r_iret hx hb hr hlocks hP hK hD hT hG hS (Option.some.inj h) rfl dX7_typeOf_45
        · replace h := ite_f c10 h
          refine lv_iload_n hx hb dX7_typeOf_34 rfl (lv_at hl 0 rfl) ?_
          refine lv_bipush (v := 44) hx hb dX7_typeOf_35 rfl ?_
          refine lv_icmp_ne (tgt := 44) hx hb dX7_typeOf_37 rfl (fun c11 => ?_) (fun c11 => ?_)
          · replace h := ite_f c11 h
            refine lv_iconst (v := 0) hx hb dX7_typeOf_44 rfl ?_
            exact r_iret hx hb hr hlocks hP hK hD hT hG hS (Option.some.inj h) rfl dX7_typeOf_45
          · replace h := ite_t c11 h
            refine lv_iconst (v := 3) hx hb dX7_typeOf_40 rfl ?_
            refine lv_goto (tgt := 45) hx hb dX7_typeOf_41 rfl ?_
            exact r_iret hx hb hr hlocks hP hK hD hT hG hS (Option.some.inj h) rfl dX7_typeOf_45
      · replace h := ite_f c9 h
        refine lv_iload_n hx hb dX7_typeOf_20 rfl (lv_at hl 0 rfl) ?_
        refine lv_bipush (v := 57) hx hb dX7_typeOf_21 rfl ?_
        refine lv_icmp_gt (tgt := 28) hx hb dX7_typeOf_23 rfl (fun c12 => ?_) (fun c12 => ?_)
        · replace h := ite_t c12 h
          refine lv_iload_n hx hb dX7_typeOf_28 rfl (lv_at hl 0 rfl) ?_
          refine lv_bipush (v := 59) hx hb dX7_typeOf_29 rfl ?_
          refine lv_icmp_eq (tgt := 40) hx hb dX7_typeOf_31 rfl (fun c13 => ?_) (fun c13 => ?_)
          · replace h := ite_t c13 h
            refine lv_iconst (v := 3) hx hb dX7_typeOf_40 rfl ?_
            refine lv_goto (tgt := 45) hx hb dX7_typeOf_41 rfl ?_
            exact r_iret hx hb hr hlocks hP hK hD hT hG hS (Option.some.inj h) rfl dX7_typeOf_45
          · replace h := ite_f c13 h
            refine lv_iload_n hx hb dX7_typeOf_34 rfl (lv_at hl 0 rfl) ?_
            refine lv_bipush (v := 44) hx hb dX7_typeOf_35 rfl ?_
            refine lv_icmp_ne (tgt := 44) hx hb dX7_typeOf_37 rfl (fun c14 => ?_) (fun c14 => ?_)
            · replace h := ite_f c14 h
              refine lv_iconst (v := 0) hx hb dX7_typeOf_44 rfl ?_
              exact r_iret hx hb hr hlocks hP hK hD hT hG hS (Option.some.inj h) rfl dX7_typeOf_45
            · replace h := ite_t c14 h
              refine lv_iconst (v := 3) hx hb dX7_typeOf_40 rfl ?_
              refine lv_goto (tgt := 45) hx hb dX7_typeOf_41 rfl ?_
              exact r_iret hx hb hr hlocks hP hK hD hT hG hS (Option.some.inj h) rfl dX7_typeOf_45
        · replace h := ite_f c12 h
          refine lv_iconst (v := 2) hx hb dX7_typeOf_26 rfl ?_
          exact r_iret hx hb hr hlocks hP hK hD hT hG hS (Option.some.inj h) rfl dX7_typeOf_27
    · replace h := ite_f c8 h
      refine lv_iconst (v := 1) hx hb dX7_typeOf_12 rfl ?_
      exact r_iret hx hb hr hlocks hP hK hD hT hG hS (Option.some.inj h) rfl dX7_typeOf_13
set_option maxHeartbeats 4000000 in
set_option maxRecDepth 100000 in
theorem c_X7_advance {l : Launch} {D : va_G} {ad : Nat → Nat} {cy : Nat → ClassId} {A : Nat → Prop} {g : CG} {q : SE} (M : MM) (a0 : Nat) (k0 : ok g a0 7 0) {Z : MM} (h : f_X7_advance M a0 = some Z) : Met l yX7_advance wsX7_advance ({ frames := 1, cells := 0, slots := 0, locals := 20 }) (va_Pc [.ref (ad a0)] (Wd D ad cy A g q M)) (va_Qv (fun u => u = Z) (Wd D ad cy A g q) A) 0 0 A := by
  refine Met.ofW (cc := cX7_advance) (maxL := 4) (ret := none) (by decide) rfl ?_
  intro p e s m args below meth c s₁ B hml hv
  obtain ⟨rfl, hP, hK, hD, hT, hG⟩ := hv
  have hx := B.exec
  have hb := B.bytes
  have hr := B.returns
  have hts := atoms_spec (ws := wsX7_advance) B.pre
  have hown : s.vm.findClass RX7 = some m.cls := findClass_of_methodNamed B.named
  have hlocks := B.notSynchronized
  have in7 : ∀ w ∈ u_ws RX7 TX7 7, w ∈ wsX7_advance := fun w h => List.mem_cons_of_mem _ (List.mem_append_right _ h)
  have hS : va_S A s.heap s.heap [] := va_S.rf
  have hl := lv_entry ([.ref (ad a0)]) (n := 4) (Nat.le_of_ble_eq_true rfl)
  rw [lg_entry_eq]
  generalize (lg_sl ([.ref (ad a0)]) ++ List.replicate (4 - (lg_sl ([.ref (ad a0)])).length) Slot.unset).toArray = ls at hl ⊢
  have hl : lv_has ls 4 [(0, .ref (ad a0))] := hl
  unfold f_X7_advance at h
  have L1 : ∀ n1 : Nat, ∀ (M1 : MM) (y1_0 : Nat) (ky1_0 : ok g y1_0 7 0) (H : Heap) (locs : List Loc), f_X7_advance_L0 n1 M1 y1_0 = some Z → va_P D vwCl (wd ad cy g M1) H → va_D A (wd ad cy g M1) → WT g M1 → va_S A s.heap H locs → ∀ (ls : Array Slot), lv_has ls 4 [(0, .ref (ad y1_0))] → W p l e ((headSpec wsX7_advance ({ frames := 1, cells := 0, slots := 0, locals := 20 })).room) s m (([.ref (ad a0)] : List Value).toArray) below meth c H locs 0 0 (MQ below (va_Qv (fun u => u = Z) (Wd D ad cy A g q) A) ([.ref (ad a0)]).toArray s 0 0 A) (F0 m 0 ls []) := by
    intro n1
    induction n1 with
    | zero => intro M1 y1_0 ky1_0 H locs h; exact absurd h (by simp [f_X7_advance_L0])
    | succ n1 ih1 =>
      intro M1 y1_0 ky1_0 H locs h hP hD hT hS ls hl
      rw [f_X7_advance_L0] at h
      refine lv_aload_n hx hb dX7_advance_0 rfl (lv_at hl 0 rfl) ?_
      refine r_get (T := TX7) (v := .int (gI M1 y1_0 3)) hx hb hts in7 hown hK hP ky1_0 (by decide) rfl 3 (by decide) (hts (.fieldLink RX7 28 "StoneWalk$Tape" "next" "I") (List.mem_of_getElem? (i := 1) (by decide +kernel))) rfl (t := 0) rfl rfl dX7_advance_1 ?_
      refine lv_aload_n hx hb dX7_advance_4 rfl (lv_at hl 0 rfl) ?_
      refine r_get (T := TX7) (v := .int (gI M1 y1_0 2)) hx hb hts in7 hown hK hP ky1_0 (by decide) rfl 2 (by decide) (hts (.fieldLink RX7 25 "StoneWalk$Tape" "end" "I") (List.mem_of_getElem? (i := 2) (by decide +kernel))) rfl (t := 0) rfl rfl dX7_advance_5 ?_
      refine lv_icmp_ge (tgt := 38) hx hb dX7_advance_8 rfl (fun c2 => ?_) (fun c2 => ?_)
      · replace h := ite_t c2 h
        have J3 : ∀ (M3 : MM) (y3_0 : Nat) (ky3_0 : ok g y3_0 7 0) (H : Heap) (locs : List Loc), f_X7_advance_J82 (fun M y1_0 => f_X7_advance_L0 n1 M y1_0) M3 y3_0 = some Z → va_P D vwCl (wd ad cy g M3) H → va_D A (wd ad cy g M3) → WT g M3 → va_S A s.heap H locs → ∀ (ls : Array Slot), lv_has ls 4 [(0, .ref (ad y3_0))] → W p l e ((headSpec wsX7_advance ({ frames := 1, cells := 0, slots := 0, locals := 20 })).room) s m (([.ref (ad a0)] : List Value).toArray) below meth c H locs 0 0 (MQ below (va_Qv (fun u => u = Z) (Wd D ad cy A g q) A) ([.ref (ad a0)]).toArray s 0 0 A) (F0 m 82 ls []) := by
          intro M3 y3_0 ky3_0 H locs h hP hD hT hS ls hl
          unfold f_X7_advance_J82 at h
          have J4 : ∀ (M4 : MM) (y4_0 : Nat) (ky4_0 : ok g y4_0 7 0) (H : Heap) (locs : List Loc), f_X7_advance_J98 (fun M y1_0 => f_X7_advance_L0 n1 M y1_0) M4 y4_0 = some Z → va_P D vwCl (wd ad cy g M4) H → va_D A (wd ad cy g M4) → WT g M4 → va_S A s.heap H locs → ∀ (ls : Array Slot), lv_has ls 4 [(0, .ref (ad y4_0))] → W p l e ((headSpec wsX7_advance ({ frames := 1, cells := 0, slots := 0, locals := 20 })).room) s m (([.ref (ad a0)] : List Value).toArray) below meth c H locs 0 0 (MQ below (va_Qv (fun u => u = Z) (Wd D ad cy A g q) A) ([.ref (ad a0)]).toArray s 0 0 A) (F0 m 98 ls []) := by
            intro M4 y4_0 ky4_0 H locs h hP hD hT hS ls hl
            unfold f_X7_advance_J98 at h
            have J5 : ∀ (M5 : MM) (y5_0 : Nat) (y5_1 : Int32) (ky5_0 : ok g y5_0 7 0) (H : Heap) (locs : List Loc), f_X7_advance_J114 (fun M y1_0 => f_X7_advance_L0 n1 M y1_0) M5 y5_0 y5_1 = some Z → va_P D vwCl (wd ad cy g M5) H → va_D A (wd ad cy g M5) → WT g M5 → va_S A s.heap H locs → ∀ (ls : Array Slot), lv_has ls 4 [(0, .ref (ad y5_0)), (1, .int y5_1)] → W p l e ((headSpec wsX7_advance ({ frames := 1, cells := 0, slots := 0, locals := 20 })).room) s m (([.ref (ad a0)] : List Value).toArray) below meth c H locs 0 0 (MQ below (va_Qv (fun u => u = Z) (Wd D ad cy A g q) A) ([.ref (ad a0)]).toArray s 0 0 A) (F0 m 114 ls []) := by
              intro M5 y5_0 y5_1 ky5_0 H locs h hP hD hT hS ls hl
              unfold f_X7_advance_J114 at h
              have J6 : ∀ (M6 : MM) (y6_0 : Nat) (y6_1 : Int32) (y6_2 : Int32) (ky6_0 : ok g y6_0 7 0) (H : Heap) (locs : List Loc), f_X7_advance_J130 (fun M y1_0 => f_X7_advance_L0 n1 M y1_0) M6 y6_0 y6_1 y6_2 = some Z → va_P D vwCl (wd ad cy g M6) H → va_D A (wd ad cy g M6) → WT g M6 → va_S A s.heap H locs → ∀ (ls : Array Slot), lv_has ls 4 [(0, .ref (ad y6_0)), (1, .int y6_1), (2, .int y6_2)] → W p l e ((headSpec wsX7_advance ({ frames := 1, cells := 0, slots := 0, locals := 20 })).room) s m (([.ref (ad a0)] : List Value).toArray) below meth c H locs 0 0 (MQ below (va_Qv (fun u => u = Z) (Wd D ad cy A g q) A) ([.ref (ad a0)]).toArray s 0 0 A) (F0 m 130 ls []) := by
                intro M6 y6_0 y6_1 y6_2 ky6_0 H locs h hP hD hT hS ls hl
                unfold f_X7_advance_J130 at h
                have J7 : ∀ (M7 : MM) (y7_0 : Nat) (y7_1 : Int32) (y7_2 : Int32) (w7_0 : Int32) (ky7_0 : ok g y7_0 7 0) (H : Heap) (locs : List Loc), f_X7_advance_J144 (fun M y1_0 => f_X7_advance_L0 n1 M y1_0) M7 y7_0 y7_1 y7_2 w7_0 = some Z → va_P D vwCl (wd ad cy g M7) H → va_D A (wd ad cy g M7) → WT g M7 → va_S A s.heap H locs → ∀ (ls : Array Slot), lv_has ls 4 [(0, .ref (ad y7_0)), (1, .int y7_1), (2, .int y7_2)] → W p l e ((headSpec wsX7_advance ({ frames := 1, cells := 0, slots := 0, locals := 20 })).room) s m (([.ref (ad a0)] : List Value).toArray) below meth c H locs 0 0 (MQ below (va_Qv (fun u => u = Z) (Wd D ad cy A g q) A) ([.ref (ad a0)]).toArray s 0 0 A) (F0 m 144 ls [.int w7_0]) := by
                  intro M7 y7_0 y7_1 y7_2 w7_0 ky7_0 H locs h hP hD hT hS ls hl
                  unfold f_X7_advance_J144 at h
                  refine lv_istore_n (lv' := [(3, .int w7_0), (0, .ref (ad y7_0)), (1, .int y7_1), (2, .int y7_2)]) hx hb dX7_advance_144 rfl hl (by decide) rfl (fun ls hl => ?_)
                  have L8 : ∀ n8 : Nat, ∀ (M8 : MM) (y8_0 : Nat) (y8_1 : Int32) (y8_2 : Int32) (y8_3 : Int32) (ky8_0 : ok g y8_0 7 0) (H : Heap) (locs : List Loc), f_X7_advance_L145 (fun M y1_0 => f_X7_advance_L0 n1 M y1_0) n8 M8 y8_0 y8_1 y8_2 y8_3 = some Z → va_P D vwCl (wd ad cy g M8) H → va_D A (wd ad cy g M8) → WT g M8 → va_S A s.heap H locs → ∀ (ls : Array Slot), lv_has ls 4 [(0, .ref (ad y8_0)), (1, .int y8_1), (2, .int y8_2), (3, .int y8_3)] → W p l e ((headSpec wsX7_advance ({ frames := 1, cells := 0, slots := 0, locals := 20 })).room) s m (([.ref (ad a0)] : List Value).toArray) below meth c H locs 0 0 (MQ below (va_Qv (fun u => u = Z) (Wd D ad cy A g q) A) ([.ref (ad a0)]).toArray s 0 0 A) (F0 m 145 ls []) := by
                    intro n8
                    induction n8 with
                    | zero => intro M8 y8_0 y8_1 y8_2 y8_3 ky8_0 H locs h; exact absurd h (by simp [f_X7_advance_L145])
                    | succ n8 ih8 =>
                      intro M8 y8_0 y8_1 y8_2 y8_3 ky8_0 H locs h hP hD hT hS ls hl
                      rw [f_X7_advance_L145] at h
                      refine lv_aload_n hx hb dX7_advance_145 rfl (lv_at hl 0 rfl) ?_
                      refine r_get (T := TX7) (v := .int (gI M8 y8_0 3)) hx hb hts in7 hown hK hP ky8_0 (by decide) rfl 3 (by decide) (hts (.fieldLink RX7 28 "StoneWalk$Tape" "next" "I") (List.mem_of_getElem? (i := 1) (by decide +kernel))) rfl (t := 0) rfl rfl dX7_advance_146 ?_
                      refine lv_aload_n hx hb dX7_advance_149 rfl (lv_at hl 0 rfl) ?_
                      refine r_get (T := TX7) (v := .int (gI M8 y8_0 2)) hx hb hts in7 hown hK hP ky8_0 (by decide) rfl 2 (by decide) (hts (.fieldLink RX7 25 "StoneWalk$Tape" "end" "I") (List.mem_of_getElem? (i := 2) (by decide +kernel))) rfl (t := 0) rfl rfl dX7_advance_150 ?_
                      refine lv_icmp_ge (tgt := 213) hx hb dX7_advance_153 rfl (fun c9 => ?_) (fun c9 => ?_)
                      · replace h := ite_t c9 h
                        refine lv_aload_n hx hb dX7_advance_213 rfl (lv_at hl 0 rfl) ?_
                        refine lv_aload_n hx hb dX7_advance_214 rfl (lv_at hl 0 rfl) ?_
                        refine r_get (T := TX7) (v := .int (gI M8 y8_0 3)) hx hb hts in7 hown hK hP ky8_0 (by decide) rfl 3 (by decide) (hts (.fieldLink RX7 28 "StoneWalk$Tape" "next" "I") (List.mem_of_getElem? (i := 1) (by decide +kernel))) rfl (t := 0) rfl rfl dX7_advance_215 ?_
                        refine lv_aload_n hx hb dX7_advance_218 rfl (lv_at hl 0 rfl) ?_
                        refine r_get (T := TX7) (v := .int (gI M8 y8_0 5)) hx hb hts in7 hown hK hP ky8_0 (by decide) rfl 5 (by decide) (hts (.fieldLink RX7 34 "StoneWalk$Tape" "start" "I") (List.mem_of_getElem? (i := 4) (by decide +kernel))) rfl (t := 0) rfl rfl dX7_advance_219 ?_
                        refine lv_isub hx hb dX7_advance_222 ?_
                        refine lv_iload_n hx hb dX7_advance_223 rfl (lv_at hl 3 rfl) ?_
                        refine lv_icmp_le (tgt := 231) hx hb dX7_advance_224 rfl (fun c10 => ?_) (fun c10 => ?_)
                        · replace h := ite_t c10 h
                          refine lv_aload_n hx hb dX7_advance_231 rfl (lv_at hl 0 rfl) ?_
                          refine r_get (T := TX7) (v := .int (gI M8 y8_0 4)) hx hb hts in7 hown hK hP ky8_0 (by decide) rfl 4 (by decide) (hts (.fieldLink RX7 45 "StoneWalk$Tape" "type" "I") (List.mem_of_getElem? (i := 6) (by decide +kernel))) rfl (t := 0) rfl rfl dX7_advance_232 ?_
                          refine r_putI (T := TX7) (ty := .int) (v := gI M8 y8_0 4) hx hb hts in7 tyX7 tyX7_ok nmX7 hown hK hP hD hT hS ky8_0 (by decide) rfl 4 (by decide) (hts (.fieldLink RX7 45 "StoneWalk$Tape" "type" "I") (List.mem_of_getElem? (i := 6) (by decide +kernel))) rfl rfl (tyX7_ok 4 (by decide)) rfl rfl rfl dX7_advance_235 (fun H locs hP hD hT hS => ?_)
                          refine lv_goto (tgt := 273) hx hb dX7_advance_238 rfl ?_
                          exact r_vret hx hb hr hlocks hP hK hD hT hG hS (Option.some.inj h) dX7_advance_273
                        · replace h := ite_f c10 h
                          refine lv_iconst (v := 0) hx hb dX7_advance_227 rfl ?_
                          refine lv_goto (tgt := 235) hx hb dX7_advance_228 rfl ?_
                          refine r_putI (T := TX7) (ty := .int) (v := 0) hx hb hts in7 tyX7 tyX7_ok nmX7 hown hK hP hD hT hS ky8_0 (by decide) rfl 4 (by decide) (hts (.fieldLink RX7 45 "StoneWalk$Tape" "type" "I") (List.mem_of_getElem? (i := 6) (by decide +kernel))) rfl rfl (tyX7_ok 4 (by decide)) rfl rfl rfl dX7_advance_235 (fun H locs hP hD hT hS => ?_)
                          refine lv_goto (tgt := 273) hx hb dX7_advance_238 rfl ?_
                          exact r_vret hx hb hr hlocks hP hK hD hT hG hS (Option.some.inj h) dX7_advance_273
                      · replace h := ite_f c9 h
                        refine lv_aload_n hx hb dX7_advance_156 rfl (lv_at hl 0 rfl) ?_
                        rcases hN11 : gR M8 y8_0 0 with _ | b11
                        · exact absurd (oc_n hN11 h) (by simp)
                        replace h := oc_s hN11 h
                        have kb11 := hT.f ky8_0 (k := 0) (t := 14) (n := 900) rfl hN11
                        refine r_get (T := TX7) (v := .ref (ad b11)) hx hb hts in7 hown hK hP ky8_0 (by decide) rfl 0 (by decide) (hts (.fieldLink RX7 9 "StoneWalk$Tape" "bytes" "[B") (List.mem_of_getElem? (i := 3) (by decide +kernel))) rfl (t := 2) rfl (by show va_rf _ = _; rw [hN11]; rfl) dX7_advance_157 ?_
                        refine lv_aload_n hx hb dX7_advance_160 rfl (lv_at hl 0 rfl) ?_
                        refine r_get (T := TX7) (v := .int (gI M8 y8_0 3)) hx hb hts in7 hown hK hP ky8_0 (by decide) rfl 3 (by decide) (hts (.fieldLink RX7 28 "StoneWalk$Tape" "next" "I") (List.mem_of_getElem? (i := 1) (by decide +kernel))) rfl (t := 0) rfl rfl dX7_advance_161 ?_
                        obtain ⟨hn12, h⟩ := chk_some h
                        refine r_bald hx hb hK hP kb11 hn12 dX7_advance_164 ?_
                        obtain ⟨z13, h13, h⟩ := ob_some h
                        refine k_i (va_runS (As := [.int (gI M8 b11 (ix (gI M8 y8_0 3)))]) (rest := []) ⟨hx, hb, hml, hown, hts⟩ (c_X7_typeOf (l := l) M8 (gI M8 b11 (ix (gI M8 y8_0 3))) h13) (va_cwS 1 hts gX7_advance_X7_typeOf rfl rfl rfl hdS_X7_typeOf ⟨Nat.le_of_ble_eq_true rfl, Nat.le_of_ble_eq_true rfl⟩) (pS hP hK hD hT hG hS) rfl rfl hl.1 rfl (lv_room (Nat.le_of_ble_eq_true rfl)) dX7_advance_165 ⟨Nat.zero_le _, Nat.zero_le _⟩) hS (fun H locs hP hD hT hS => ?_)
                        refine lv_aload_n hx hb dX7_advance_168 rfl (lv_at hl 0 rfl) ?_
                        refine r_get (T := TX7) (v := .int (gI M8 y8_0 4)) hx hb hts in7 hown hK hP ky8_0 (by decide) rfl 4 (by decide) (hts (.fieldLink RX7 45 "StoneWalk$Tape" "type" "I") (List.mem_of_getElem? (i := 6) (by decide +kernel))) rfl (t := 0) rfl rfl dX7_advance_169 ?_
                        refine lv_icmp_ne (tgt := 213) hx hb dX7_advance_172 rfl (fun c14 => ?_) (fun c14 => ?_)
                        · replace h := ite_f c14 h
                          refine lv_aload_n hx hb dX7_advance_213 rfl (lv_at hl 0 rfl) ?_
                          refine lv_aload_n hx hb dX7_advance_214 rfl (lv_at hl 0 rfl) ?_
                          refine r_get (T := TX7) (v := .int (gI M8 y8_0 3)) hx hb hts in7 hown hK hP ky8_0 (by decide) rfl 3 (by decide) (hts (.fieldLink RX7 28 "StoneWalk$Tape" "next" "I") (List.mem_of_getElem? (i := 1) (by decide +kernel))) rfl (t := 0) rfl rfl dX7_advance_215 ?_
                          refine lv_aload_n hx hb dX7_advance_218 rfl (lv_at hl 0 rfl) ?_
                          refine r_get (T := TX7) (v := .int (gI M8 y8_0 5)) hx hb hts in7 hown hK hP ky8_0 (by decide) rfl 5 (by decide) (hts (.fieldLink RX7 34 "StoneWalk$Tape" "start" "I") (List.mem_of_getElem? (i := 4) (by decide +kernel))) rfl (t := 0) rfl rfl dX7_advance_219 ?_
                          refine lv_isub hx hb dX7_advance_222 ?_
                          refine lv_iload_n hx hb dX7_advance_223 rfl (lv_at hl 3 rfl) ?_
                          refine lv_icmp_le (tgt := 231) hx hb dX7_advance_224 rfl (fun c15 => ?_) (fun c15 => ?_)
                          · replace h := ite_t c15 h
                            refine lv_aload_n hx hb dX7_advance_231 rfl (lv_at hl 0 rfl) ?_
                            refine r_get (T := TX7) (v := .int (gI M8 y8_0 4)) hx hb hts in7 hown hK hP ky8_0 (by decide) rfl 4 (by decide) (hts (.fieldLink RX7 45 "StoneWalk$Tape" "type" "I") (List.mem_of_getElem? (i := 6) (by decide +kernel))) rfl (t := 0) rfl rfl dX7_advance_232 ?_
                            refine r_putI (T := TX7) (ty := .int) (v := gI M8 y8_0 4) hx hb hts in7 tyX7 tyX7_ok nmX7 hown hK hP hD hT hS ky8_0 (by decide) rfl 4 (by decide) (hts (.fieldLink RX7 45 "StoneWalk$Tape" "type" "I") (List.mem_of_getElem? (i := 6) (by decide +kernel))) rfl rfl (tyX7_ok 4 (by decide)) rfl rfl rfl dX7_advance_235 (fun H locs hP hD hT hS => ?_)
                            refine lv_goto (tgt := 273) hx hb dX7_advance_238 rfl ?_
                            exact r_vret hx hb hr hlocks hP hK hD hT hG hS (Option.some.inj h) dX7_advance_273
                          · replace h := ite_f c15 h
                            refine lv_iconst (v := 0) hx hb dX7_advance_227 rfl ?_
                            refine lv_goto (tgt := 235) hx hb dX7_advance_228 rfl ?_
                            refine r_putI (T := TX7) (ty := .int) (v := 0) hx hb hts in7 tyX7 tyX7_ok nmX7 hown hK hP hD hT hS ky8_0 (by decide) rfl 4 (by decide) (hts (.fieldLink RX7 45 "StoneWalk$Tape" "type" "I") (List.mem_of_getElem? (i := 6) (by decide +kernel))) rfl rfl (tyX7_ok 4 (by decide)) rfl rfl rfl dX7_advance_235 (fun H locs hP hD hT hS => ?_)
                            refine lv_goto (tgt := 273) hx hb dX7_advance_238 rfl ?_
                            exact r_vret hx hb hr hlocks hP hK hD hT hG hS (Option.some.inj h) dX7_advance_273
                        · replace h := ite_t c14 h
                          refine lv_aload_n hx hb dX7_advance_175 rfl (lv_at hl 0 rfl) ?_
                          refine lv_aload_n hx hb dX7_advance_176 rfl (lv_at hl 0 rfl) ?_
                          refine r_get (T := TX7) (v := .long (gL M8 y8_0 6)) hx hb hts in7 hown hK hP ky8_0 (by decide) rfl 6 (by decide) (hts (.fieldLink RX7 37 "StoneWalk$Tape" "value" "J") (List.mem_of_getElem? (i := 5) (by decide +kernel))) rfl (t := 1) rfl rfl dX7_advance_177 ?_
                          refine lv_iload_n hx hb dX7_advance_180 rfl (lv_at hl 1 rfl) ?_
                          refine lv_i2l hx hb dX7_advance_181 rfl ?_
                          refine lv_lmul hx hb dX7_advance_182 ?_
                          refine lv_aload_n hx hb dX7_advance_183 rfl (lv_at hl 0 rfl) ?_
                          rcases hN16 : gR M8 y8_0 0 with _ | b16
                          · exact absurd (oc_n hN16 h) (by simp)
                          replace h := oc_s hN16 h
                          have kb16 := hT.f ky8_0 (k := 0) (t := 14) (n := 900) rfl hN16
                          refine r_get (T := TX7) (v := .ref (ad b16)) hx hb hts in7 hown hK hP ky8_0 (by decide) rfl 0 (by decide) (hts (.fieldLink RX7 9 "StoneWalk$Tape" "bytes" "[B") (List.mem_of_getElem? (i := 3) (by decide +kernel))) rfl (t := 2) rfl (by show va_rf _ = _; rw [hN16]; rfl) dX7_advance_184 ?_
                          refine lv_aload_n hx hb dX7_advance_187 rfl (lv_at hl 0 rfl) ?_
                          refine r_get (T := TX7) (v := .int (gI M8 y8_0 3)) hx hb hts in7 hown hK hP ky8_0 (by decide) rfl 3 (by decide) (hts (.fieldLink RX7 28 "StoneWalk$Tape" "next" "I") (List.mem_of_getElem? (i := 1) (by decide +kernel))) rfl (t := 0) rfl rfl dX7_advance_188 ?_
                          obtain ⟨hn17, h⟩ := chk_some h
                          refine r_bald hx hb hK hP kb16 hn17 dX7_advance_191 ?_
                          refine lv_i2l hx hb dX7_advance_192 rfl ?_
                          refine lv_ladd hx hb dX7_advance_193 ?_
                          refine lv_iload_n hx hb dX7_advance_194 rfl (lv_at hl 2 rfl) ?_
                          refine lv_i2l hx hb dX7_advance_195 rfl ?_
                          refine lv_lsub hx hb dX7_advance_196 ?_
                          refine r_putL (T := TX7) (v := (((gL M8 y8_0 6) * y8_1.toInt64) + ((gI M8 b16 (ix (gI M8 y8_0 3))).toInt64)) - y8_2.toInt64) hx hb hts in7 tyX7 tyX7_ok nmX7 hown hK hP hD hT hS ky8_0 (by decide) rfl 6 (by decide) (hts (.fieldLink RX7 37 "StoneWalk$Tape" "value" "J") (List.mem_of_getElem? (i := 5) (by decide +kernel))) rfl rfl (tyX7_ok 6 (by decide)) rfl dX7_advance_197 (fun H locs hP hD hT hS => ?_)
                          refine lv_aload_n hx hb dX7_advance_200 rfl (lv_at hl 0 rfl) ?_
                          refine lv_dup hx hb dX7_advance_201 rfl ?_
                          refine r_get (T := TX7) (v := .int (gI (pL M8 y8_0 6 ((((gL M8 y8_0 6) * y8_1.toInt64) + ((gI M8 b16 (ix (gI M8 y8_0 3))).toInt64)) - y8_2.toInt64)) y8_0 3)) hx hb hts in7 hown hK hP ky8_0 (by decide) rfl 3 (by decide) (hts (.fieldLink RX7 28 "StoneWalk$Tape" "next" "I") (List.mem_of_getElem? (i := 1) (by decide +kernel))) rfl (t := 0) rfl rfl dX7_advance_202 ?_
                          refine lv_iconst (v := 1) hx hb dX7_advance_205 rfl ?_
                          refine lv_iadd hx hb dX7_advance_206 ?_
                          refine r_putI (T := TX7) (ty := .int) (v := (gI (pL M8 y8_0 6 ((((gL M8 y8_0 6) * y8_1.toInt64) + ((gI M8 b16 (ix (gI M8 y8_0 3))).toInt64)) - y8_2.toInt64)) y8_0 3) + 1) hx hb hts in7 tyX7 tyX7_ok nmX7 hown hK hP hD hT hS ky8_0 (by decide) rfl 3 (by decide) (hts (.fieldLink RX7 28 "StoneWalk$Tape" "next" "I") (List.mem_of_getElem? (i := 1) (by decide +kernel))) rfl rfl (tyX7_ok 3 (by decide)) rfl rfl rfl dX7_advance_207 (fun H locs hP hD hT hS => ?_)
                          refine lv_goto (tgt := 145) hx hb dX7_advance_210 rfl ?_
                          exact ih8 (pI (pL M8 y8_0 6 ((((gL M8 y8_0 6) * y8_1.toInt64) + ((gI M8 b16 (ix (gI M8 y8_0 3))).toInt64)) - y8_2.toInt64)) y8_0 3 ((gI (pL M8 y8_0 6 ((((gL M8 y8_0 6) * y8_1.toInt64) + ((gI M8 b16 (ix (gI M8 y8_0 3))).toInt64)) - y8_2.toInt64)) y8_0 3) + 1)) y8_0 y8_1 y8_2 y8_3 ky8_0 _ _ h hP hD hT hS ls (lv_sub hl [0, 1, 2, 3] rfl)
                  exact L8 FU M7 y7_0 y7_1 y7_2 w7_0 ky7_0 _ _ h hP hD hT hS ls (lv_sub hl [1, 2, 3, 0] rfl)
                refine lv_aload_n hx hb dX7_advance_130 rfl (lv_at hl 0 rfl) ?_
                refine r_get (T := TX7) (v := .int (gI M6 y6_0 4)) hx hb hts in7 hown hK hP ky6_0 (by decide) rfl 4 (by decide) (hts (.fieldLink RX7 45 "StoneWalk$Tape" "type" "I") (List.mem_of_getElem? (i := 6) (by decide +kernel))) rfl (t := 0) rfl rfl dX7_advance_131 ?_
                refine lv_iconst (v := 1) hx hb dX7_advance_134 rfl ?_
                refine lv_icmp_ne (tgt := 143) hx hb dX7_advance_135 rfl (fun c18 => ?_) (fun c18 => ?_)
                · replace h := ite_f c18 h
                  refine lv_iconst (v := 3) hx hb dX7_advance_143 rfl ?_
                  exact J7 M6 y6_0 y6_1 y6_2 3 ky6_0 _ _ h hP hD hT hS ls (lv_sub hl [0, 1, 2] rfl)
                · replace h := ite_t c18 h
                  refine lv_bipush (v := 8) hx hb dX7_advance_138 rfl ?_
                  refine lv_goto (tgt := 144) hx hb dX7_advance_140 rfl ?_
                  exact J7 M6 y6_0 y6_1 y6_2 8 ky6_0 _ _ h hP hD hT hS ls (lv_sub hl [0, 1, 2] rfl)
              refine lv_aload_n hx hb dX7_advance_114 rfl (lv_at hl 0 rfl) ?_
              refine r_get (T := TX7) (v := .int (gI M5 y5_0 4)) hx hb hts in7 hown hK hP ky5_0 (by decide) rfl 4 (by decide) (hts (.fieldLink RX7 45 "StoneWalk$Tape" "type" "I") (List.mem_of_getElem? (i := 6) (by decide +kernel))) rfl (t := 0) rfl rfl dX7_advance_115 ?_
              refine lv_iconst (v := 1) hx hb dX7_advance_118 rfl ?_
              refine lv_icmp_ne (tgt := 127) hx hb dX7_advance_119 rfl (fun c19 => ?_) (fun c19 => ?_)
              · replace h := ite_f c19 h
                refine lv_bipush (v := 48) hx hb dX7_advance_127 rfl ?_
                refine lv_istore_n (lv' := [(2, .int 48), (0, .ref (ad y5_0)), (1, .int y5_1)]) hx hb dX7_advance_129 rfl hl (by decide) rfl (fun ls hl => ?_)
                exact J6 M5 y5_0 y5_1 48 ky5_0 _ _ h hP hD hT hS ls (lv_sub hl [1, 2, 0] rfl)
              · replace h := ite_t c19 h
                refine lv_bipush (v := 96) hx hb dX7_advance_122 rfl ?_
                refine lv_goto (tgt := 129) hx hb dX7_advance_124 rfl ?_
                refine lv_istore_n (lv' := [(2, .int 96), (0, .ref (ad y5_0)), (1, .int y5_1)]) hx hb dX7_advance_129 rfl hl (by decide) rfl (fun ls hl => ?_)
                exact J6 M5 y5_0 y5_1 96 ky5_0 _ _ h hP hD hT hS ls (lv_sub hl [1, 2, 0] rfl)
            refine lv_aload_n hx hb dX7_advance_98 rfl (lv_at hl 0 rfl) ?_
            refine r_get (T := TX7) (v := .int (gI M4 y4_0 4)) hx hb hts in7 hown hK hP ky4_0 (by decide) rfl 4 (by decide) (hts (.fieldLink RX7 45 "StoneWalk$Tape" "type" "I") (List.mem_of_getElem? (i := 6) (by decide +kernel))) rfl (t := 0) rfl rfl dX7_advance_99 ?_
            refine lv_iconst (v := 1) hx hb dX7_advance_102 rfl ?_
            refine lv_icmp_ne (tgt := 111) hx hb dX7_advance_103 rfl (fun c20 => ?_) (fun c20 => ?_)
            · replace h := ite_f c20 h
              refine lv_bipush (v := 10) hx hb dX7_advance_111 rfl ?_
              refine lv_istore_n (lv' := [(1, .int 10), (0, .ref (ad y4_0))]) hx hb dX7_advance_113 rfl hl (by decide) rfl (fun ls hl => ?_)
              exact J5 M4 y4_0 10 ky4_0 _ _ h hP hD hT hS ls (lv_sub hl [1, 0] rfl)
            · replace h := ite_t c20 h
              refine lv_bipush (v := 32) hx hb dX7_advance_106 rfl ?_
              refine lv_goto (tgt := 113) hx hb dX7_advance_108 rfl ?_
              refine lv_istore_n (lv' := [(1, .int 32), (0, .ref (ad y4_0))]) hx hb dX7_advance_113 rfl hl (by decide) rfl (fun ls hl => ?_)
              exact J5 M4 y4_0 32 ky4_0 _ _ h hP hD hT hS ls (lv_sub hl [1, 0] rfl)
          refine lv_aload_n hx hb dX7_advance_82 rfl (lv_at hl 0 rfl) ?_
          refine r_get (T := TX7) (v := .int (gI M3 y3_0 4)) hx hb hts in7 hown hK hP ky3_0 (by decide) rfl 4 (by decide) (hts (.fieldLink RX7 45 "StoneWalk$Tape" "type" "I") (List.mem_of_getElem? (i := 6) (by decide +kernel))) rfl (t := 0) rfl rfl dX7_advance_83 ?_
          refine lv_iconst (v := 1) hx hb dX7_advance_86 rfl ?_
          refine lv_icmp_eq (tgt := 98) hx hb dX7_advance_87 rfl (fun c21 => ?_) (fun c21 => ?_)
          · replace h := ite_t c21 h
            exact J4 M3 y3_0 ky3_0 _ _ h hP hD hT hS ls (lv_sub hl [0] rfl)
          · replace h := ite_f c21 h
            refine lv_aload_n hx hb dX7_advance_90 rfl (lv_at hl 0 rfl) ?_
            refine r_get (T := TX7) (v := .int (gI M3 y3_0 4)) hx hb hts in7 hown hK hP ky3_0 (by decide) rfl 4 (by decide) (hts (.fieldLink RX7 45 "StoneWalk$Tape" "type" "I") (List.mem_of_getElem? (i := 6) (by decide +kernel))) rfl (t := 0) rfl rfl dX7_advance_91 ?_
            refine lv_iconst (v := 2) hx hb dX7_advance_94 rfl ?_
            refine lv_icmp_ne (tgt := 241) hx hb dX7_advance_95 rfl (fun c22 => ?_) (fun c22 => ?_)
            · replace h := ite_f c22 h
              refine lv_aload_n hx hb dX7_advance_241 rfl (lv_at hl 0 rfl) ?_
              refine r_get (T := TX7) (v := .int (gI M3 y3_0 4)) hx hb hts in7 hown hK hP ky3_0 (by decide) rfl 4 (by decide) (hts (.fieldLink RX7 45 "StoneWalk$Tape" "type" "I") (List.mem_of_getElem? (i := 6) (by decide +kernel))) rfl (t := 0) rfl rfl dX7_advance_242 ?_
              refine lv_iconst (v := 4) hx hb dX7_advance_245 rfl ?_
              refine lv_icmp_eq (tgt := 273) hx hb dX7_advance_246 rfl (fun c23 => ?_) (fun c23 => ?_)
              · replace h := ite_t c23 h
                exact r_vret hx hb hr hlocks hP hK hD hT hG hS (Option.some.inj h) dX7_advance_273
              · replace h := ite_f c23 h
                refine lv_aload_n hx hb dX7_advance_249 rfl (lv_at hl 0 rfl) ?_
                refine lv_aload_n hx hb dX7_advance_250 rfl (lv_at hl 0 rfl) ?_
                rcases hN24 : gR M3 y3_0 0 with _ | b24
                · exact absurd (oc_n hN24 h) (by simp)
                replace h := oc_s hN24 h
                have kb24 := hT.f ky3_0 (k := 0) (t := 14) (n := 900) rfl hN24
                refine r_get (T := TX7) (v := .ref (ad b24)) hx hb hts in7 hown hK hP ky3_0 (by decide) rfl 0 (by decide) (hts (.fieldLink RX7 9 "StoneWalk$Tape" "bytes" "[B") (List.mem_of_getElem? (i := 3) (by decide +kernel))) rfl (t := 2) rfl (by show va_rf _ = _; rw [hN24]; rfl) dX7_advance_251 ?_
                refine lv_aload_n hx hb dX7_advance_254 rfl (lv_at hl 0 rfl) ?_
                refine r_get (T := TX7) (v := .int (gI M3 y3_0 5)) hx hb hts in7 hown hK hP ky3_0 (by decide) rfl 5 (by decide) (hts (.fieldLink RX7 34 "StoneWalk$Tape" "start" "I") (List.mem_of_getElem? (i := 4) (by decide +kernel))) rfl (t := 0) rfl rfl dX7_advance_255 ?_
                obtain ⟨hn25, h⟩ := chk_some h
                refine r_bald hx hb hK hP kb24 hn25 dX7_advance_258 ?_
                refine lv_i2l hx hb dX7_advance_259 rfl ?_
                refine r_putL (T := TX7) (v := (gI M3 b24 (ix (gI M3 y3_0 5))).toInt64) hx hb hts in7 tyX7 tyX7_ok nmX7 hown hK hP hD hT hS ky3_0 (by decide) rfl 6 (by decide) (hts (.fieldLink RX7 37 "StoneWalk$Tape" "value" "J") (List.mem_of_getElem? (i := 5) (by decide +kernel))) rfl rfl (tyX7_ok 6 (by decide)) rfl dX7_advance_260 (fun H locs hP hD hT hS => ?_)
                refine lv_aload_n hx hb dX7_advance_263 rfl (lv_at hl 0 rfl) ?_
                refine lv_dup hx hb dX7_advance_264 rfl ?_
                refine r_get (T := TX7) (v := .int (gI (pL M3 y3_0 6 ((gI M3 b24 (ix (gI M3 y3_0 5))).toInt64)) y3_0 3)) hx hb hts in7 hown hK hP ky3_0 (by decide) rfl 3 (by decide) (hts (.fieldLink RX7 28 "StoneWalk$Tape" "next" "I") (List.mem_of_getElem? (i := 1) (by decide +kernel))) rfl (t := 0) rfl rfl dX7_advance_265 ?_
                refine lv_iconst (v := 1) hx hb dX7_advance_268 rfl ?_
                refine lv_iadd hx hb dX7_advance_269 ?_
                refine r_putI (T := TX7) (ty := .int) (v := (gI (pL M3 y3_0 6 ((gI M3 b24 (ix (gI M3 y3_0 5))).toInt64)) y3_0 3) + 1) hx hb hts in7 tyX7 tyX7_ok nmX7 hown hK hP hD hT hS ky3_0 (by decide) rfl 3 (by decide) (hts (.fieldLink RX7 28 "StoneWalk$Tape" "next" "I") (List.mem_of_getElem? (i := 1) (by decide +kernel))) rfl rfl (tyX7_ok 3 (by decide)) rfl rfl rfl dX7_advance_270 (fun H locs hP hD hT hS => ?_)
                exact r_vret hx hb hr hlocks hP hK hD hT hG hS (Option.some.inj h) dX7_advance_273
            · replace h := ite_t c22 h
              exact J4 M3 y3_0 ky3_0 _ _ h hP hD hT hS ls (lv_sub hl [0] rfl)
        refine lv_aload_n hx hb dX7_advance_38 rfl (lv_at hl 0 rfl) ?_
        refine lv_aload_n hx hb dX7_advance_39 rfl (lv_at hl 0 rfl) ?_
        refine r_get (T := TX7) (v := .int (gI M1 y1_0 3)) hx hb hts in7 hown hK hP ky1_0 (by decide) rfl 3 (by decide) (hts (.fieldLink RX7 28 "StoneWalk$Tape" "next" "I") (List.mem_of_getElem? (i := 1) (by decide +kernel))) rfl (t := 0) rfl rfl dX7_advance_40 ?_
        refine r_putI (T := TX7) (ty := .int) (v := gI M1 y1_0 3) hx hb hts in7 tyX7 tyX7_ok nmX7 hown hK hP hD hT hS ky1_0 (by decide) rfl 5 (by decide) (hts (.fieldLink RX7 34 "StoneWalk$Tape" "start" "I") (List.mem_of_getElem? (i := 4) (by decide +kernel))) rfl rfl (tyX7_ok 5 (by decide)) rfl rfl rfl dX7_advance_43 (fun H locs hP hD hT hS => ?_)
        refine lv_aload_n hx hb dX7_advance_46 rfl (lv_at hl 0 rfl) ?_
        refine lv_lconst (v := 0) hx hb dX7_advance_47 rfl ?_
        refine r_putL (T := TX7) (v := 0) hx hb hts in7 tyX7 tyX7_ok nmX7 hown hK hP hD hT hS ky1_0 (by decide) rfl 6 (by decide) (hts (.fieldLink RX7 37 "StoneWalk$Tape" "value" "J") (List.mem_of_getElem? (i := 5) (by decide +kernel))) rfl rfl (tyX7_ok 6 (by decide)) rfl dX7_advance_48 (fun H locs hP hD hT hS => ?_)
        refine lv_aload_n hx hb dX7_advance_51 rfl (lv_at hl 0 rfl) ?_
        refine lv_aload_n hx hb dX7_advance_52 rfl (lv_at hl 0 rfl) ?_
        refine r_get (T := TX7) (v := .int (gI (pL (pI M1 y1_0 5 (gI M1 y1_0 3)) y1_0 6 0) y1_0 5)) hx hb hts in7 hown hK hP ky1_0 (by decide) rfl 5 (by decide) (hts (.fieldLink RX7 34 "StoneWalk$Tape" "start" "I") (List.mem_of_getElem? (i := 4) (by decide +kernel))) rfl (t := 0) rfl rfl dX7_advance_53 ?_
        refine lv_aload_n hx hb dX7_advance_56 rfl (lv_at hl 0 rfl) ?_
        refine r_get (T := TX7) (v := .int (gI (pL (pI M1 y1_0 5 (gI M1 y1_0 3)) y1_0 6 0) y1_0 2)) hx hb hts in7 hown hK hP ky1_0 (by decide) rfl 2 (by decide) (hts (.fieldLink RX7 25 "StoneWalk$Tape" "end" "I") (List.mem_of_getElem? (i := 2) (by decide +kernel))) rfl (t := 0) rfl rfl dX7_advance_57 ?_
        refine lv_icmp_ge (tgt := 78) hx hb dX7_advance_60 rfl (fun c26 => ?_) (fun c26 => ?_)
        · replace h := ite_t c26 h
          refine lv_iconst (v := 4) hx hb dX7_advance_78 rfl ?_
          refine r_putI (T := TX7) (ty := .int) (v := 4) hx hb hts in7 tyX7 tyX7_ok nmX7 hown hK hP hD hT hS ky1_0 (by decide) rfl 4 (by decide) (hts (.fieldLink RX7 45 "StoneWalk$Tape" "type" "I") (List.mem_of_getElem? (i := 6) (by decide +kernel))) rfl rfl (tyX7_ok 4 (by decide)) rfl rfl rfl dX7_advance_79 (fun H locs hP hD hT hS => ?_)
          exact J3 (pI (pL (pI M1 y1_0 5 (gI M1 y1_0 3)) y1_0 6 0) y1_0 4 4) y1_0 ky1_0 _ _ h hP hD hT hS ls (lv_sub hl [0] rfl)
        · replace h := ite_f c26 h
          refine lv_aload_n hx hb dX7_advance_63 rfl (lv_at hl 0 rfl) ?_
          rcases hN27 : gR (pL (pI M1 y1_0 5 (gI M1 y1_0 3)) y1_0 6 0) y1_0 0 with _ | b27
          · exact absurd (oc_n hN27 h) (by simp)
          replace h := oc_s hN27 h
          have kb27 := hT.f ky1_0 (k := 0) (t := 14) (n := 900) rfl hN27
          refine r_get (T := TX7) (v := .ref (ad b27)) hx hb hts in7 hown hK hP ky1_0 (by decide) rfl 0 (by decide) (hts (.fieldLink RX7 9 "StoneWalk$Tape" "bytes" "[B") (List.mem_of_getElem? (i := 3) (by decide +kernel))) rfl (t := 2) rfl (by show va_rf _ = _; rw [hN27]; rfl) dX7_advance_64 ?_
          refine lv_aload_n hx hb dX7_advance_67 rfl (lv_at hl 0 rfl) ?_
          refine r_get (T := TX7) (v := .int (gI (pL (pI M1 y1_0 5 (gI M1 y1_0 3)) y1_0 6 0) y1_0 5)) hx hb hts in7 hown hK hP ky1_0 (by decide) rfl 5 (by decide) (hts (.fieldLink RX7 34 "StoneWalk$Tape" "start" "I") (List.mem_of_getElem? (i := 4) (by decide +kernel))) rfl (t := 0) rfl rfl dX7_advance_68 ?_
          obtain ⟨hn28, h⟩ := chk_some h
          refine r_bald hx hb hK hP kb27 hn28 dX7_advance_71 ?_
          obtain ⟨z29, h29, h⟩ := ob_some h
          refine k_i (va_runS (As := [.int (gI (pL (pI M1 y1_0 5 (gI M1 y1_0 3)) y1_0 6 0) b27 (ix (gI (pL (pI M1 y1_0 5 (gI M1 y1_0 3)) y1_0 6 0) y1_0 5)))]) (rest := [.ref (ad y1_0)]) ⟨hx, hb, hml, hown, hts⟩ (c_X7_typeOf (l := l) (pL (pI M1 y1_0 5 (gI M1 y1_0 3)) y1_0 6 0) (gI (pL (pI M1 y1_0 5 (gI M1 y1_0 3)) y1_0 6 0) b27 (ix (gI (pL (pI M1 y1_0 5 (gI M1 y1_0 3)) y1_0 6 0) y1_0 5))) h29) (va_cwS 1 hts gX7_advance_X7_typeOf rfl rfl rfl hdS_X7_typeOf ⟨Nat.le_of_ble_eq_true rfl, Nat.le_of_ble_eq_true rfl⟩) (pS hP hK hD hT hG hS) rfl rfl hl.1 rfl (lv_room (Nat.le_of_ble_eq_true rfl)) dX7_advance_72 ⟨Nat.zero_le _, Nat.zero_le _⟩) hS (fun H locs hP hD hT hS => ?_)
          refine lv_goto (tgt := 79) hx hb dX7_advance_75 rfl ?_
          refine r_putI (T := TX7) (ty := .int) (v := z29) hx hb hts in7 tyX7 tyX7_ok nmX7 hown hK hP hD hT hS ky1_0 (by decide) rfl 4 (by decide) (hts (.fieldLink RX7 45 "StoneWalk$Tape" "type" "I") (List.mem_of_getElem? (i := 6) (by decide +kernel))) rfl rfl (tyX7_ok 4 (by decide)) rfl rfl rfl dX7_advance_79 (fun H locs hP hD hT hS => ?_)
          exact J3 (pI (pL (pI M1 y1_0 5 (gI M1 y1_0 3)) y1_0 6 0) y1_0 4 z29) y1_0 ky1_0 _ _ h hP hD hT hS ls (lv_sub hl [0] rfl)
      · replace h := ite_f c2 h
        refine lv_aload_n hx hb dX7_advance_11 rfl (lv_at hl 0 rfl) ?_
        rcases hN30 : gR M1 y1_0 0 with _ | b30
        · exact absurd (oc_n hN30 h) (by simp)
        replace h := oc_s hN30 h
        have kb30 := hT.f ky1_0 (k := 0) (t := 14) (n := 900) rfl hN30
        refine r_get (T := TX7) (v := .ref (ad b30)) hx hb hts in7 hown hK hP ky1_0 (by decide) rfl 0 (by decide) (hts (.fieldLink RX7 9 "StoneWalk$Tape" "bytes" "[B") (List.mem_of_getElem? (i := 3) (by decide +kernel))) rfl (t := 2) rfl (by show va_rf _ = _; rw [hN30]; rfl) dX7_advance_12 ?_
        refine lv_aload_n hx hb dX7_advance_15 rfl (lv_at hl 0 rfl) ?_
        refine r_get (T := TX7) (v := .int (gI M1 y1_0 3)) hx hb hts in7 hown hK hP ky1_0 (by decide) rfl 3 (by decide) (hts (.fieldLink RX7 28 "StoneWalk$Tape" "next" "I") (List.mem_of_getElem? (i := 1) (by decide +kernel))) rfl (t := 0) rfl rfl dX7_advance_16 ?_
        obtain ⟨hn31, h⟩ := chk_some h
        refine r_bald hx hb hK hP kb30 hn31 dX7_advance_19 ?_
        refine lv_bipush (v := 32) hx hb dX7_advance_20 rfl ?_
        refine lv_icmp_ne (tgt := 38) hx hb dX7_advance_22 rfl (fun c32 => ?_) (fun c32 => ?_)
        · replace h := ite_f c32 h
          have J33 : ∀ (M33 : MM) (y33_0 : Nat) (ky33_0 : ok g y33_0 7 0) (H : Heap) (locs : List Loc), f_X7_advance_J82_1 (fun M y1_0 => f_X7_advance_L0 n1 M y1_0) M33 y33_0 = some Z → va_P D vwCl (wd ad cy g M33) H → va_D A (wd ad cy g M33) → WT g M33 → va_S A s.heap H locs → ∀ (ls : Array Slot), lv_has ls 4 [(0, .ref (ad y33_0))] → W p l e ((headSpec wsX7_advance ({ frames := 1, cells := 0, slots := 0, locals := 20 })).room) s m (([.ref (ad a0)] : List Value).toArray) below meth c H locs 0 0 (MQ below (va_Qv (fun u => u = Z) (Wd D ad cy A g q) A) ([.ref (ad a0)]).toArray s 0 0 A) (F0 m 82 ls []) := by
            intro M33 y33_0 ky33_0 H locs h hP hD hT hS ls hl
            unfold f_X7_advance_J82_1 at h
            have J34 : ∀ (M34 : MM) (y34_0 : Nat) (ky34_0 : ok g y34_0 7 0) (H : Heap) (locs : List Loc), f_X7_advance_J98_1 (fun M y1_0 => f_X7_advance_L0 n1 M y1_0) M34 y34_0 = some Z → va_P D vwCl (wd ad cy g M34) H → va_D A (wd ad cy g M34) → WT g M34 → va_S A s.heap H locs → ∀ (ls : Array Slot), lv_has ls 4 [(0, .ref (ad y34_0))] → W p l e ((headSpec wsX7_advance ({ frames := 1, cells := 0, slots := 0, locals := 20 })).room) s m (([.ref (ad a0)] : List Value).toArray) below meth c H locs 0 0 (MQ below (va_Qv (fun u => u = Z) (Wd D ad cy A g q) A) ([.ref (ad a0)]).toArray s 0 0 A) (F0 m 98 ls []) := by
              intro M34 y34_0 ky34_0 H locs h hP hD hT hS ls hl
              unfold f_X7_advance_J98_1 at h
              have J35 : ∀ (M35 : MM) (y35_0 : Nat) (y35_1 : Int32) (ky35_0 : ok g y35_0 7 0) (H : Heap) (locs : List Loc), f_X7_advance_J114_1 (fun M y1_0 => f_X7_advance_L0 n1 M y1_0) M35 y35_0 y35_1 = some Z → va_P D vwCl (wd ad cy g M35) H → va_D A (wd ad cy g M35) → WT g M35 → va_S A s.heap H locs → ∀ (ls : Array Slot), lv_has ls 4 [(0, .ref (ad y35_0)), (1, .int y35_1)] → W p l e ((headSpec wsX7_advance ({ frames := 1, cells := 0, slots := 0, locals := 20 })).room) s m (([.ref (ad a0)] : List Value).toArray) below meth c H locs 0 0 (MQ below (va_Qv (fun u => u = Z) (Wd D ad cy A g q) A) ([.ref (ad a0)]).toArray s 0 0 A) (F0 m 114 ls []) := by
                intro M35 y35_0 y35_1 ky35_0 H locs h hP hD hT hS ls hl
                unfold f_X7_advance_J114_1 at h
                have J36 : ∀ (M36 : MM) (y36_0 : Nat) (y36_1 : Int32) (y36_2 : Int32) (ky36_0 : ok g y36_0 7 0) (H : Heap) (locs : List Loc), f_X7_advance_J130_1 (fun M y1_0 => f_X7_advance_L0 n1 M y1_0) M36 y36_0 y36_1 y36_2 = some Z → va_P D vwCl (wd ad cy g M36) H → va_D A (wd ad cy g M36) → WT g M36 → va_S A s.heap H locs → ∀ (ls : Array Slot), lv_has ls 4 [(0, .ref (ad y36_0)), (1, .int y36_1), (2, .int y36_2)] → W p l e ((headSpec wsX7_advance ({ frames := 1, cells := 0, slots := 0, locals := 20 })).room) s m (([.ref (ad a0)] : List Value).toArray) below meth c H locs 0 0 (MQ below (va_Qv (fun u => u = Z) (Wd D ad cy A g q) A) ([.ref (ad a0)]).toArray s 0 0 A) (F0 m 130 ls []) := by
                  intro M36 y36_0 y36_1 y36_2 ky36_0 H locs h hP hD hT hS ls hl
                  unfold f_X7_advance_J130_1 at h
                  have J37 : ∀ (M37 : MM) (y37_0 : Nat) (y37_1 : Int32) (y37_2 : Int32) (w37_0 : Int32) (ky37_0 : ok g y37_0 7 0) (H : Heap) (locs : List Loc), f_X7_advance_J144_1 (fun M y1_0 => f_X7_advance_L0 n1 M y1_0) M37 y37_0 y37_1 y37_2 w37_0 = some Z → va_P D vwCl (wd ad cy g M37) H → va_D A (wd ad cy g M37) → WT g M37 → va_S A s.heap H locs → ∀ (ls : Array Slot), lv_has ls 4 [(0, .ref (ad y37_0)), (1, .int y37_1), (2, .int y37_2)] → W p l e ((headSpec wsX7_advance ({ frames := 1, cells := 0, slots := 0, locals := 20 })).room) s m (([.ref (ad a0)] : List Value).toArray) below meth c H locs 0 0 (MQ below (va_Qv (fun u => u = Z) (Wd D ad cy A g q) A) ([.ref (ad a0)]).toArray s 0 0 A) (F0 m 144 ls [.int w37_0]) := by
                    intro M37 y37_0 y37_1 y37_2 w37_0 ky37_0 H locs h hP hD hT hS ls hl
                    unfold f_X7_advance_J144_1 at h
                    refine lv_istore_n (lv' := [(3, .int w37_0), (0, .ref (ad y37_0)), (1, .int y37_1), (2, .int y37_2)]) hx hb dX7_advance_144 rfl hl (by decide) rfl (fun ls hl => ?_)
                    have L38 : ∀ n38 : Nat, ∀ (M38 : MM) (y38_0 : Nat) (y38_1 : Int32) (y38_2 : Int32) (y38_3 : Int32) (ky38_0 : ok g y38_0 7 0) (H : Heap) (locs : List Loc), f_X7_advance_L145_1 (fun M y1_0 => f_X7_advance_L0 n1 M y1_0) n38 M38 y38_0 y38_1 y38_2 y38_3 = some Z → va_P D vwCl (wd ad cy g M38) H → va_D A (wd ad cy g M38) → WT g M38 → va_S A s.heap H locs → ∀ (ls : Array Slot), lv_has ls 4 [(0, .ref (ad y38_0)), (1, .int y38_1), (2, .int y38_2), (3, .int y38_3)] → W p l e ((headSpec wsX7_advance ({ frames := 1, cells := 0, slots := 0, locals := 20 })).room) s m (([.ref (ad a0)] : List Value).toArray) below meth c H locs 0 0 (MQ below (va_Qv (fun u => u = Z) (Wd D ad cy A g q) A) ([.ref (ad a0)]).toArray s 0 0 A) (F0 m 145 ls []) := by
                      intro n38
                      induction n38 with
                      | zero => intro M38 y38_0 y38_1 y38_2 y38_3 ky38_0 H locs h; exact absurd h (by simp [f_X7_advance_L145_1])
                      | succ n38 ih38 =>
                        intro M38 y38_0 y38_1 y38_2 y38_3 ky38_0 H locs h hP hD hT hS ls hl
                        rw [f_X7_advance_L145_1] at h
                        refine lv_aload_n hx hb dX7_advance_145 rfl (lv_at hl 0 rfl) ?_
                        refine r_get (T := TX7) (v := .int (gI M38 y38_0 3)) hx hb hts in7 hown hK hP ky38_0 (by decide) rfl 3 (by decide) (hts (.fieldLink RX7 28 "StoneWalk$Tape" "next" "I") (List.mem_of_getElem? (i := 1) (by decide +kernel))) rfl (t := 0) rfl rfl dX7_advance_146 ?_
                        refine lv_aload_n hx hb dX7_advance_149 rfl (lv_at hl 0 rfl) ?_
                        refine r_get (T := TX7) (v := .int (gI M38 y38_0 2)) hx hb hts in7 hown hK hP ky38_0 (by decide) rfl 2 (by decide) (hts (.fieldLink RX7 25 "StoneWalk$Tape" "end" "I") (List.mem_of_getElem? (i := 2) (by decide +kernel))) rfl (t := 0) rfl rfl dX7_advance_150 ?_
                        refine lv_icmp_ge (tgt := 213) hx hb dX7_advance_153 rfl (fun c39 => ?_) (fun c39 => ?_)
                        · replace h := ite_t c39 h
                          refine lv_aload_n hx hb dX7_advance_213 rfl (lv_at hl 0 rfl) ?_
                          refine lv_aload_n hx hb dX7_advance_214 rfl (lv_at hl 0 rfl) ?_
                          refine r_get (T := TX7) (v := .int (gI M38 y38_0 3)) hx hb hts in7 hown hK hP ky38_0 (by decide) rfl 3 (by decide) (hts (.fieldLink RX7 28 "StoneWalk$Tape" "next" "I") (List.mem_of_getElem? (i := 1) (by decide +kernel))) rfl (t := 0) rfl rfl dX7_advance_215 ?_
                          refine lv_aload_n hx hb dX7_advance_218 rfl (lv_at hl 0 rfl) ?_
                          refine r_get (T := TX7) (v := .int (gI M38 y38_0 5)) hx hb hts in7 hown hK hP ky38_0 (by decide) rfl 5 (by decide) (hts (.fieldLink RX7 34 "StoneWalk$Tape" "start" "I") (List.mem_of_getElem? (i := 4) (by decide +kernel))) rfl (t := 0) rfl rfl dX7_advance_219 ?_
                          refine lv_isub hx hb dX7_advance_222 ?_
                          refine lv_iload_n hx hb dX7_advance_223 rfl (lv_at hl 3 rfl) ?_
                          refine lv_icmp_le (tgt := 231) hx hb dX7_advance_224 rfl (fun c40 => ?_) (fun c40 => ?_)
                          · replace h := ite_t c40 h
                            refine lv_aload_n hx hb dX7_advance_231 rfl (lv_at hl 0 rfl) ?_
                            refine r_get (T := TX7) (v := .int (gI M38 y38_0 4)) hx hb hts in7 hown hK hP ky38_0 (by decide) rfl 4 (by decide) (hts (.fieldLink RX7 45 "StoneWalk$Tape" "type" "I") (List.mem_of_getElem? (i := 6) (by decide +kernel))) rfl (t := 0) rfl rfl dX7_advance_232 ?_
                            refine r_putI (T := TX7) (ty := .int) (v := gI M38 y38_0 4) hx hb hts in7 tyX7 tyX7_ok nmX7 hown hK hP hD hT hS ky38_0 (by decide) rfl 4 (by decide) (hts (.fieldLink RX7 45 "StoneWalk$Tape" "type" "I") (List.mem_of_getElem? (i := 6) (by decide +kernel))) rfl rfl (tyX7_ok 4 (by decide)) rfl rfl rfl dX7_advance_235 (fun H locs hP hD hT hS => ?_)
                            refine lv_goto (tgt := 273) hx hb dX7_advance_238 rfl ?_
                            exact r_vret hx hb hr hlocks hP hK hD hT hG hS (Option.some.inj h) dX7_advance_273
                          · replace h := ite_f c40 h
                            refine lv_iconst (v := 0) hx hb dX7_advance_227 rfl ?_
                            refine lv_goto (tgt := 235) hx hb dX7_advance_228 rfl ?_
                            refine r_putI (T := TX7) (ty := .int) (v := 0) hx hb hts in7 tyX7 tyX7_ok nmX7 hown hK hP hD hT hS ky38_0 (by decide) rfl 4 (by decide) (hts (.fieldLink RX7 45 "StoneWalk$Tape" "type" "I") (List.mem_of_getElem? (i := 6) (by decide +kernel))) rfl rfl (tyX7_ok 4 (by decide)) rfl rfl rfl dX7_advance_235 (fun H locs hP hD hT hS => ?_)
                            refine lv_goto (tgt := 273) hx hb dX7_advance_238 rfl ?_
                            exact r_vret hx hb hr hlocks hP hK hD hT hG hS (Option.some.inj h) dX7_advance_273
                        · replace h := ite_f c39 h
                          refine lv_aload_n hx hb dX7_advance_156 rfl (lv_at hl 0 rfl) ?_
                          rcases hN41 : gR M38 y38_0 0 with _ | b41
                          · exact absurd (oc_n hN41 h) (by simp)
                          replace h := oc_s hN41 h
                          have kb41 := hT.f ky38_0 (k := 0) (t := 14) (n := 900) rfl hN41
                          refine r_get (T := TX7) (v := .ref (ad b41)) hx hb hts in7 hown hK hP ky38_0 (by decide) rfl 0 (by decide) (hts (.fieldLink RX7 9 "StoneWalk$Tape" "bytes" "[B") (List.mem_of_getElem? (i := 3) (by decide +kernel))) rfl (t := 2) rfl (by show va_rf _ = _; rw [hN41]; rfl) dX7_advance_157 ?_
                          refine lv_aload_n hx hb dX7_advance_160 rfl (lv_at hl 0 rfl) ?_
                          refine r_get (T := TX7) (v := .int (gI M38 y38_0 3)) hx hb hts in7 hown hK hP ky38_0 (by decide) rfl 3 (by decide) (hts (.fieldLink RX7 28 "StoneWalk$Tape" "next" "I") (List.mem_of_getElem? (i := 1) (by decide +kernel))) rfl (t := 0) rfl rfl dX7_advance_161 ?_
                          obtain ⟨hn42, h⟩ := chk_some h
                          refine r_bald hx hb hK hP kb41 hn42 dX7_advance_164 ?_
                          obtain ⟨z43, h43, h⟩ := ob_some h
                          refine k_i (va_runS (As := [.int (gI M38 b41 (ix (gI M38 y38_0 3)))]) (rest := []) ⟨hx, hb, hml, hown, hts⟩ (c_X7_typeOf (l := l) M38 (gI M38 b41 (ix (gI M38 y38_0 3))) h43) (va_cwS 1 hts gX7_advance_X7_typeOf rfl rfl rfl hdS_X7_typeOf ⟨Nat.le_of_ble_eq_true rfl, Nat.le_of_ble_eq_true rfl⟩) (pS hP hK hD hT hG hS) rfl rfl hl.1 rfl (lv_room (Nat.le_of_ble_eq_true rfl)) dX7_advance_165 ⟨Nat.zero_le _, Nat.zero_le _⟩) hS (fun H locs hP hD hT hS => ?_)
                          refine lv_aload_n hx hb dX7_advance_168 rfl (lv_at hl 0 rfl) ?_
                          refine r_get (T := TX7) (v := .int (gI M38 y38_0 4)) hx hb hts in7 hown hK hP ky38_0 (by decide) rfl 4 (by decide) (hts (.fieldLink RX7 45 "StoneWalk$Tape" "type" "I") (List.mem_of_getElem? (i := 6) (by decide +kernel))) rfl (t := 0) rfl rfl dX7_advance_169 ?_
                          refine lv_icmp_ne (tgt := 213) hx hb dX7_advance_172 rfl (fun c44 => ?_) (fun c44 => ?_)
                          · replace h := ite_f c44 h
                            refine lv_aload_n hx hb dX7_advance_213 rfl (lv_at hl 0 rfl) ?_
                            refine lv_aload_n hx hb dX7_advance_214 rfl (lv_at hl 0 rfl) ?_
                            refine r_get (T := TX7) (v := .int (gI M38 y38_0 3)) hx hb hts in7 hown hK hP ky38_0 (by decide) rfl 3 (by decide) (hts (.fieldLink RX7 28 "StoneWalk$Tape" "next" "I") (List.mem_of_getElem? (i := 1) (by decide +kernel))) rfl (t := 0) rfl rfl dX7_advance_215 ?_
                            refine lv_aload_n hx hb dX7_advance_218 rfl (lv_at hl 0 rfl) ?_
                            refine r_get (T := TX7) (v := .int (gI M38 y38_0 5)) hx hb hts in7 hown hK hP ky38_0 (by decide) rfl 5 (by decide) (hts (.fieldLink RX7 34 "StoneWalk$Tape" "start" "I") (List.mem_of_getElem? (i := 4) (by decide +kernel))) rfl (t := 0) rfl rfl dX7_advance_219 ?_
                            refine lv_isub hx hb dX7_advance_222 ?_
                            refine lv_iload_n hx hb dX7_advance_223 rfl (lv_at hl 3 rfl) ?_
                            refine lv_icmp_le (tgt := 231) hx hb dX7_advance_224 rfl (fun c45 => ?_) (fun c45 => ?_)
                            · replace h := ite_t c45 h
                              refine lv_aload_n hx hb dX7_advance_231 rfl (lv_at hl 0 rfl) ?_
                              refine r_get (T := TX7) (v := .int (gI M38 y38_0 4)) hx hb hts in7 hown hK hP ky38_0 (by decide) rfl 4 (by decide) (hts (.fieldLink RX7 45 "StoneWalk$Tape" "type" "I") (List.mem_of_getElem? (i := 6) (by decide +kernel))) rfl (t := 0) rfl rfl dX7_advance_232 ?_
                              refine r_putI (T := TX7) (ty := .int) (v := gI M38 y38_0 4) hx hb hts in7 tyX7 tyX7_ok nmX7 hown hK hP hD hT hS ky38_0 (by decide) rfl 4 (by decide) (hts (.fieldLink RX7 45 "StoneWalk$Tape" "type" "I") (List.mem_of_getElem? (i := 6) (by decide +kernel))) rfl rfl (tyX7_ok 4 (by decide)) rfl rfl rfl dX7_advance_235 (fun H locs hP hD hT hS => ?_)
                              refine lv_goto (tgt := 273) hx hb dX7_advance_238 rfl ?_
                              exact r_vret hx hb hr hlocks hP hK hD hT hG hS (Option.some.inj h) dX7_advance_273
                            · replace h := ite_f c45 h
                              refine lv_iconst (v := 0) hx hb dX7_advance_227 rfl ?_
                              refine lv_goto (tgt := 235) hx hb dX7_advance_228 rfl ?_
                              refine r_putI (T := TX7) (ty := .int) (v := 0) hx hb hts in7 tyX7 tyX7_ok nmX7 hown hK hP hD hT hS ky38_0 (by decide) rfl 4 (by decide) (hts (.fieldLink RX7 45 "StoneWalk$Tape" "type" "I") (List.mem_of_getElem? (i := 6) (by decide +kernel))) rfl rfl (tyX7_ok 4 (by decide)) rfl rfl rfl dX7_advance_235 (fun H locs hP hD hT hS => ?_)
                              refine lv_goto (tgt := 273) hx hb dX7_advance_238 rfl ?_
                              exact r_vret hx hb hr hlocks hP hK hD hT hG hS (Option.some.inj h) dX7_advance_273
                          · replace h := ite_t c44 h
                            refine lv_aload_n hx hb dX7_advance_175 rfl (lv_at hl 0 rfl) ?_
                            refine lv_aload_n hx hb dX7_advance_176 rfl (lv_at hl 0 rfl) ?_
                            refine r_get (T := TX7) (v := .long (gL M38 y38_0 6)) hx hb hts in7 hown hK hP ky38_0 (by decide) rfl 6 (by decide) (hts (.fieldLink RX7 37 "StoneWalk$Tape" "value" "J") (List.mem_of_getElem? (i := 5) (by decide +kernel))) rfl (t := 1) rfl rfl dX7_advance_177 ?_
                            refine lv_iload_n hx hb dX7_advance_180 rfl (lv_at hl 1 rfl) ?_
                            refine lv_i2l hx hb dX7_advance_181 rfl ?_
                            refine lv_lmul hx hb dX7_advance_182 ?_
                            refine lv_aload_n hx hb dX7_advance_183 rfl (lv_at hl 0 rfl) ?_
                            rcases hN46 : gR M38 y38_0 0 with _ | b46
                            · exact absurd (oc_n hN46 h) (by simp)
                            replace h := oc_s hN46 h
                            have kb46 := hT.f ky38_0 (k := 0) (t := 14) (n := 900) rfl hN46
                            refine r_get (T := TX7) (v := .ref (ad b46)) hx hb hts in7 hown hK hP ky38_0 (by decide) rfl 0 (by decide) (hts (.fieldLink RX7 9 "StoneWalk$Tape" "bytes" "[B") (List.mem_of_getElem? (i := 3) (by decide +kernel))) rfl (t := 2) rfl (by show va_rf _ = _; rw [hN46]; rfl) dX7_advance_184 ?_
                            refine lv_aload_n hx hb dX7_advance_187 rfl (lv_at hl 0 rfl) ?_
                            refine r_get (T := TX7) (v := .int (gI M38 y38_0 3)) hx hb hts in7 hown hK hP ky38_0 (by decide) rfl 3 (by decide) (hts (.fieldLink RX7 28 "StoneWalk$Tape" "next" "I") (List.mem_of_getElem? (i := 1) (by decide +kernel))) rfl (t := 0) rfl rfl dX7_advance_188 ?_
                            obtain ⟨hn47, h⟩ := chk_some h
                            refine r_bald hx hb hK hP kb46 hn47 dX7_advance_191 ?_
                            refine lv_i2l hx hb dX7_advance_192 rfl ?_
                            refine lv_ladd hx hb dX7_advance_193 ?_
                            refine lv_iload_n hx hb dX7_advance_194 rfl (lv_at hl 2 rfl) ?_
                            refine lv_i2l hx hb dX7_advance_195 rfl ?_
                            refine lv_lsub hx hb dX7_advance_196 ?_
                            refine r_putL (T := TX7) (v := (((gL M38 y38_0 6) * y38_1.toInt64) + ((gI M38 b46 (ix (gI M38 y38_0 3))).toInt64)) - y38_2.toInt64) hx hb hts in7 tyX7 tyX7_ok nmX7 hown hK hP hD hT hS ky38_0 (by decide) rfl 6 (by decide) (hts (.fieldLink RX7 37 "StoneWalk$Tape" "value" "J") (List.mem_of_getElem? (i := 5) (by decide +kernel))) rfl rfl (tyX7_ok 6 (by decide)) rfl dX7_advance_197 (fun H locs hP hD hT hS => ?_)
                            refine lv_aload_n hx hb dX7_advance_200 rfl (lv_at hl 0 rfl) ?_
                            refine lv_dup hx hb dX7_advance_201 rfl ?_
                            refine r_get (T := TX7) (v := .int (gI (pL M38 y38_0 6 ((((gL M38 y38_0 6) * y38_1.toInt64) + ((gI M38 b46 (ix (gI M38 y38_0 3))).toInt64)) - y38_2.toInt64)) y38_0 3)) hx hb hts in7 hown hK hP ky38_0 (by decide) rfl 3 (by decide) (hts (.fieldLink RX7 28 "StoneWalk$Tape" "next" "I") (List.mem_of_getElem? (i := 1) (by decide +kernel))) rfl (t := 0) rfl rfl dX7_advance_202 ?_
                            refine lv_iconst (v := 1) hx hb dX7_advance_205 rfl ?_
                            refine lv_iadd hx hb dX7_advance_206 ?_
                            refine r_putI (T := TX7) (ty := .int) (v := (gI (pL M38 y38_0 6 ((((gL M38 y38_0 6) * y38_1.toInt64) + ((gI M38 b46 (ix (gI M38 y38_0 3))).toInt64)) - y38_2.toInt64)) y38_0 3) + 1) hx hb hts in7 tyX7 tyX7_ok nmX7 hown hK hP hD hT hS ky38_0 (by decide) rfl 3 (by decide) (hts (.fieldLink RX7 28 "StoneWalk$Tape" "next" "I") (List.mem_of_getElem? (i := 1) (by decide +kernel))) rfl rfl (tyX7_ok 3 (by decide)) rfl rfl rfl dX7_advance_207 (fun H locs hP hD hT hS => ?_)
                            refine lv_goto (tgt := 145) hx hb dX7_advance_210 rfl ?_
                            exact ih38 (pI (pL M38 y38_0 6 ((((gL M38 y38_0 6) * y38_1.toInt64) + ((gI M38 b46 (ix (gI M38 y38_0 3))).toInt64)) - y38_2.toInt64)) y38_0 3 ((gI (pL M38 y38_0 6 ((((gL M38 y38_0 6) * y38_1.toInt64) + ((gI M38 b46 (ix (gI M38 y38_0 3))).toInt64)) - y38_2.toInt64)) y38_0 3) + 1)) y38_0 y38_1 y38_2 y38_3 ky38_0 _ _ h hP hD hT hS ls (lv_sub hl [0, 1, 2, 3] rfl)
                    exact L38 FU M37 y37_0 y37_1 y37_2 w37_0 ky37_0 _ _ h hP hD hT hS ls (lv_sub hl [1, 2, 3, 0] rfl)
                  refine lv_aload_n hx hb dX7_advance_130 rfl (lv_at hl 0 rfl) ?_
                  refine r_get (T := TX7) (v := .int (gI M36 y36_0 4)) hx hb hts in7 hown hK hP ky36_0 (by decide) rfl 4 (by decide) (hts (.fieldLink RX7 45 "StoneWalk$Tape" "type" "I") (List.mem_of_getElem? (i := 6) (by decide +kernel))) rfl (t := 0) rfl rfl dX7_advance_131 ?_
                  refine lv_iconst (v := 1) hx hb dX7_advance_134 rfl ?_
                  refine lv_icmp_ne (tgt := 143) hx hb dX7_advance_135 rfl (fun c48 => ?_) (fun c48 => ?_)
                  · replace h := ite_f c48 h
                    refine lv_iconst (v := 3) hx hb dX7_advance_143 rfl ?_
                    exact J37 M36 y36_0 y36_1 y36_2 3 ky36_0 _ _ h hP hD hT hS ls (lv_sub hl [0, 1, 2] rfl)
                  · replace h := ite_t c48 h
                    refine lv_bipush (v := 8) hx hb dX7_advance_138 rfl ?_
                    refine lv_goto (tgt := 144) hx hb dX7_advance_140 rfl ?_
                    exact J37 M36 y36_0 y36_1 y36_2 8 ky36_0 _ _ h hP hD hT hS ls (lv_sub hl [0, 1, 2] rfl)
                refine lv_aload_n hx hb dX7_advance_114 rfl (lv_at hl 0 rfl) ?_
                refine r_get (T := TX7) (v := .int (gI M35 y35_0 4)) hx hb hts in7 hown hK hP ky35_0 (by decide) rfl 4 (by decide) (hts (.fieldLink RX7 45 "StoneWalk$Tape" "type" "I") (List.mem_of_getElem? (i := 6) (by decide +kernel))) rfl (t := 0) rfl rfl dX7_advance_115 ?_
                refine lv_iconst (v := 1) hx hb dX7_advance_118 rfl ?_
                refine lv_icmp_ne (tgt := 127) hx hb dX7_advance_119 rfl (fun c49 => ?_) (fun c49 => ?_)
                · replace h := ite_f c49 h
                  refine lv_bipush (v := 48) hx hb dX7_advance_127 rfl ?_
                  refine lv_istore_n (lv' := [(2, .int 48), (0, .ref (ad y35_0)), (1, .int y35_1)]) hx hb dX7_advance_129 rfl hl (by decide) rfl (fun ls hl => ?_)
                  exact J36 M35 y35_0 y35_1 48 ky35_0 _ _ h hP hD hT hS ls (lv_sub hl [1, 2, 0] rfl)
                · replace h := ite_t c49 h
                  refine lv_bipush (v := 96) hx hb dX7_advance_122 rfl ?_
                  refine lv_goto (tgt := 129) hx hb dX7_advance_124 rfl ?_
                  refine lv_istore_n (lv' := [(2, .int 96), (0, .ref (ad y35_0)), (1, .int y35_1)]) hx hb dX7_advance_129 rfl hl (by decide) rfl (fun ls hl => ?_)
                  exact J36 M35 y35_0 y35_1 96 ky35_0 _ _ h hP hD hT hS ls (lv_sub hl [1, 2, 0] rfl)
              refine lv_aload_n hx hb dX7_advance_98 rfl (lv_at hl 0 rfl) ?_
              refine r_get (T := TX7) (v := .int (gI M34 y34_0 4)) hx hb hts in7 hown hK hP ky34_0 (by decide) rfl 4 (by decide) (hts (.fieldLink RX7 45 "StoneWalk$Tape" "type" "I") (List.mem_of_getElem? (i := 6) (by decide +kernel))) rfl (t := 0) rfl rfl dX7_advance_99 ?_
              refine lv_iconst (v := 1) hx hb dX7_advance_102 rfl ?_
              refine lv_icmp_ne (tgt := 111) hx hb dX7_advance_103 rfl (fun c50 => ?_) (fun c50 => ?_)
              · replace h := ite_f c50 h
                refine lv_bipush (v := 10) hx hb dX7_advance_111 rfl ?_
                refine lv_istore_n (lv' := [(1, .int 10), (0, .ref (ad y34_0))]) hx hb dX7_advance_113 rfl hl (by decide) rfl (fun ls hl => ?_)
                exact J35 M34 y34_0 10 ky34_0 _ _ h hP hD hT hS ls (lv_sub hl [1, 0] rfl)
              · replace h := ite_t c50 h
                refine lv_bipush (v := 32) hx hb dX7_advance_106 rfl ?_
                refine lv_goto (tgt := 113) hx hb dX7_advance_108 rfl ?_
                refine lv_istore_n (lv' := [(1, .int 32), (0, .ref (ad y34_0))]) hx hb dX7_advance_113 rfl hl (by decide) rfl (fun ls hl => ?_)
                exact J35 M34 y34_0 32 ky34_0 _ _ h hP hD hT hS ls (lv_sub hl [1, 0] rfl)
            refine lv_aload_n hx hb dX7_advance_82 rfl (lv_at hl 0 rfl) ?_
            refine r_get (T := TX7) (v := .int (gI M33 y33_0 4)) hx hb hts in7 hown hK hP ky33_0 (by decide) rfl 4 (by decide) (hts (.fieldLink RX7 45 "StoneWalk$Tape" "type" "I") (List.mem_of_getElem? (i := 6) (by decide +kernel))) rfl (t := 0) rfl rfl dX7_advance_83 ?_
            refine lv_iconst (v := 1) hx hb dX7_advance_86 rfl ?_
            refine lv_icmp_eq (tgt := 98) hx hb dX7_advance_87 rfl (fun c51 => ?_) (fun c51 => ?_)
            · replace h := ite_t c51 h
              exact J34 M33 y33_0 ky33_0 _ _ h hP hD hT hS ls (lv_sub hl [0] rfl)
            · replace h := ite_f c51 h
              refine lv_aload_n hx hb dX7_advance_90 rfl (lv_at hl 0 rfl) ?_
              refine r_get (T := TX7) (v := .int (gI M33 y33_0 4)) hx hb hts in7 hown hK hP ky33_0 (by decide) rfl 4 (by decide) (hts (.fieldLink RX7 45 "StoneWalk$Tape" "type" "I") (List.mem_of_getElem? (i := 6) (by decide +kernel))) rfl (t := 0) rfl rfl dX7_advance_91 ?_
              refine lv_iconst (v := 2) hx hb dX7_advance_94 rfl ?_
              refine lv_icmp_ne (tgt := 241) hx hb dX7_advance_95 rfl (fun c52 => ?_) (fun c52 => ?_)
              · replace h := ite_f c52 h
                refine lv_aload_n hx hb dX7_advance_241 rfl (lv_at hl 0 rfl) ?_
                refine r_get (T := TX7) (v := .int (gI M33 y33_0 4)) hx hb hts in7 hown hK hP ky33_0 (by decide) rfl 4 (by decide) (hts (.fieldLink RX7 45 "StoneWalk$Tape" "type" "I") (List.mem_of_getElem? (i := 6) (by decide +kernel))) rfl (t := 0) rfl rfl dX7_advance_242 ?_
                refine lv_iconst (v := 4) hx hb dX7_advance_245 rfl ?_
                refine lv_icmp_eq (tgt := 273) hx hb dX7_advance_246 rfl (fun c53 => ?_) (fun c53 => ?_)
                · replace h := ite_t c53 h
                  exact r_vret hx hb hr hlocks hP hK hD hT hG hS (Option.some.inj h) dX7_advance_273
                · replace h := ite_f c53 h
                  refine lv_aload_n hx hb dX7_advance_249 rfl (lv_at hl 0 rfl) ?_
                  refine lv_aload_n hx hb dX7_advance_250 rfl (lv_at hl 0 rfl) ?_
                  rcases hN54 : gR M33 y33_0 0 with _ | b54
                  · exact absurd (oc_n hN54 h) (by simp)
                  replace h := oc_s hN54 h
                  have kb54 := hT.f ky33_0 (k := 0) (t := 14) (n := 900) rfl hN54
                  refine r_get (T := TX7) (v := .ref (ad b54)) hx hb hts in7 hown hK hP ky33_0 (by decide) rfl 0 (by decide) (hts (.fieldLink RX7 9 "StoneWalk$Tape" "bytes" "[B") (List.mem_of_getElem? (i := 3) (by decide +kernel))) rfl (t := 2) rfl (by show va_rf _ = _; rw [hN54]; rfl) dX7_advance_251 ?_
                  refine lv_aload_n hx hb dX7_advance_254 rfl (lv_at hl 0 rfl) ?_
                  refine r_get (T := TX7) (v := .int (gI M33 y33_0 5)) hx hb hts in7 hown hK hP ky33_0 (by decide) rfl 5 (by decide) (hts (.fieldLink RX7 34 "StoneWalk$Tape" "start" "I") (List.mem_of_getElem? (i := 4) (by decide +kernel))) rfl (t := 0) rfl rfl dX7_advance_255 ?_
                  obtain ⟨hn55, h⟩ := chk_some h
                  refine r_bald hx hb hK hP kb54 hn55 dX7_advance_258 ?_
                  refine lv_i2l hx hb dX7_advance_259 rfl ?_
                  refine r_putL (T := TX7) (v := (gI M33 b54 (ix (gI M33 y33_0 5))).toInt64) hx hb hts in7 tyX7 tyX7_ok nmX7 hown hK hP hD hT hS ky33_0 (by decide) rfl 6 (by decide) (hts (.fieldLink RX7 37 "StoneWalk$Tape" "value" "J") (List.mem_of_getElem? (i := 5) (by decide +kernel))) rfl rfl (tyX7_ok 6 (by decide)) rfl dX7_advance_260 (fun H locs hP hD hT hS => ?_)
                  refine lv_aload_n hx hb dX7_advance_263 rfl (lv_at hl 0 rfl) ?_
                  refine lv_dup hx hb dX7_advance_264 rfl ?_
                  refine r_get (T := TX7) (v := .int (gI (pL M33 y33_0 6 ((gI M33 b54 (ix (gI M33 y33_0 5))).toInt64)) y33_0 3)) hx hb hts in7 hown hK hP ky33_0 (by decide) rfl 3 (by decide) (hts (.fieldLink RX7 28 "StoneWalk$Tape" "next" "I") (List.mem_of_getElem? (i := 1) (by decide +kernel))) rfl (t := 0) rfl rfl dX7_advance_265 ?_
                  refine lv_iconst (v := 1) hx hb dX7_advance_268 rfl ?_
                  refine lv_iadd hx hb dX7_advance_269 ?_
                  refine r_putI (T := TX7) (ty := .int) (v := (gI (pL M33 y33_0 6 ((gI M33 b54 (ix (gI M33 y33_0 5))).toInt64)) y33_0 3) + 1) hx hb hts in7 tyX7 tyX7_ok nmX7 hown hK hP hD hT hS ky33_0 (by decide) rfl 3 (by decide) (hts (.fieldLink RX7 28 "StoneWalk$Tape" "next" "I") (List.mem_of_getElem? (i := 1) (by decide +kernel))) rfl rfl (tyX7_ok 3 (by decide)) rfl rfl rfl dX7_advance_270 (fun H locs hP hD hT hS => ?_)
                  exact r_vret hx hb hr hlocks hP hK hD hT hG hS (Option.some.inj h) dX7_advance_273
              · replace h := ite_t c52 h
                exact J34 M33 y33_0 ky33_0 _ _ h hP hD hT hS ls (lv_sub hl [0] rfl)
          refine lv_aload_n hx hb dX7_advance_38 rfl (lv_at hl 0 rfl) ?_
          refine lv_aload_n hx hb dX7_advance_39 rfl (lv_at hl 0 rfl) ?_
          refine r_get (T := TX7) (v := .int (gI M1 y1_0 3)) hx hb hts in7 hown hK hP ky1_0 (by decide) rfl 3 (by decide) (hts (.fieldLink RX7 28 "StoneWalk$Tape" "next" "I") (List.mem_of_getElem? (i := 1) (by decide +kernel))) rfl (t := 0) rfl rfl dX7_advance_40 ?_
          refine r_putI (T := TX7) (ty := .int) (v := gI M1 y1_0 3) hx hb hts in7 tyX7 tyX7_ok nmX7 hown hK hP hD hT hS ky1_0 (by decide) rfl 5 (by decide) (hts (.fieldLink RX7 34 "StoneWalk$Tape" "start" "I") (List.mem_of_getElem? (i := 4) (by decide +kernel))) rfl rfl (tyX7_ok 5 (by decide)) rfl rfl rfl dX7_advance_43 (fun H locs hP hD hT hS => ?_)
          refine lv_aload_n hx hb dX7_advance_46 rfl (lv_at hl 0 rfl) ?_
          refine lv_lconst (v := 0) hx hb dX7_advance_47 rfl ?_
          refine r_putL (T := TX7) (v := 0) hx hb hts in7 tyX7 tyX7_ok nmX7 hown hK hP hD hT hS ky1_0 (by decide) rfl 6 (by decide) (hts (.fieldLink RX7 37 "StoneWalk$Tape" "value" "J") (List.mem_of_getElem? (i := 5) (by decide +kernel))) rfl rfl (tyX7_ok 6 (by decide)) rfl dX7_advance_48 (fun H locs hP hD hT hS => ?_)
          refine lv_aload_n hx hb dX7_advance_51 rfl (lv_at hl 0 rfl) ?_
          refine lv_aload_n hx hb dX7_advance_52 rfl (lv_at hl 0 rfl) ?_
          refine r_get (T := TX7) (v := .int (gI (pL (pI M1 y1_0 5 (gI M1 y1_0 3)) y1_0 6 0) y1_0 5)) hx hb hts in7 hown hK hP ky1_0 (by decide) rfl 5 (by decide) (hts (.fieldLink RX7 34 "StoneWalk$Tape" "start" "I") (List.mem_of_getElem? (i := 4) (by decide +kernel))) rfl (t := 0) rfl rfl dX7_advance_53 ?_
          refine lv_aload_n hx hb dX7_advance_56 rfl (lv_at hl 0 rfl) ?_
          refine r_get (T := TX7) (v := .int (gI (pL (pI M1 y1_0 5 (gI M1 y1_0 3)) y1_0 6 0) y1_0 2)) hx hb hts in7 hown hK hP ky1_0 (by decide) rfl 2 (by decide) (hts (.fieldLink RX7 25 "StoneWalk$Tape" "end" "I") (List.mem_of_getElem? (i := 2) (by decide +kernel))) rfl (t := 0) rfl rfl dX7_advance_57 ?_
          refine lv_icmp_ge (tgt := 78) hx hb dX7_advance_60 rfl (fun c56 => ?_) (fun c56 => ?_)
          · replace h := ite_t c56 h
            refine lv_iconst (v := 4) hx hb dX7_advance_78 rfl ?_
            refine r_putI (T := TX7) (ty := .int) (v := 4) hx hb hts in7 tyX7 tyX7_ok nmX7 hown hK hP hD hT hS ky1_0 (by decide) rfl 4 (by decide) (hts (.fieldLink RX7 45 "StoneWalk$Tape" "type" "I") (List.mem_of_getElem? (i := 6) (by decide +kernel))) rfl rfl (tyX7_ok 4 (by decide)) rfl rfl rfl dX7_advance_79 (fun H locs hP hD hT hS => ?_)
            exact J33 (pI (pL (pI M1 y1_0 5 (gI M1 y1_0 3)) y1_0 6 0) y1_0 4 4) y1_0 ky1_0 _ _ h hP hD hT hS ls (lv_sub hl [0] rfl)
          · replace h := ite_f c56 h
            refine lv_aload_n hx hb dX7_advance_63 rfl (lv_at hl 0 rfl) ?_
            rcases hN57 : gR (pL (pI M1 y1_0 5 (gI M1 y1_0 3)) y1_0 6 0) y1_0 0 with _ | b57
            · exact absurd (oc_n hN57 h) (by simp)
            replace h := oc_s hN57 h
            have kb57 := hT.f ky1_0 (k := 0) (t := 14) (n := 900) rfl hN57
            refine r_get (T := TX7) (v := .ref (ad b57)) hx hb hts in7 hown hK hP ky1_0 (by decide) rfl 0 (by decide) (hts (.fieldLink RX7 9 "StoneWalk$Tape" "bytes" "[B") (List.mem_of_getElem? (i := 3) (by decide +kernel))) rfl (t := 2) rfl (by show va_rf _ = _; rw [hN57]; rfl) dX7_advance_64 ?_
            refine lv_aload_n hx hb dX7_advance_67 rfl (lv_at hl 0 rfl) ?_
            refine r_get (T := TX7) (v := .int (gI (pL (pI M1 y1_0 5 (gI M1 y1_0 3)) y1_0 6 0) y1_0 5)) hx hb hts in7 hown hK hP ky1_0 (by decide) rfl 5 (by decide) (hts (.fieldLink RX7 34 "StoneWalk$Tape" "start" "I") (List.mem_of_getElem? (i := 4) (by decide +kernel))) rfl (t := 0) rfl rfl dX7_advance_68 ?_
            obtain ⟨hn58, h⟩ := chk_some h
            refine r_bald hx hb hK hP kb57 hn58 dX7_advance_71 ?_
            obtain ⟨z59, h59, h⟩ := ob_some h
            refine k_i (va_runS (As := [.int (gI (pL (pI M1 y1_0 5 (gI M1 y1_0 3)) y1_0 6 0) b57 (ix (gI (pL (pI M1 y1_0 5 (gI M1 y1_0 3)) y1_0 6 0) y1_0 5)))]) (rest := [.ref (ad y1_0)]) ⟨hx, hb, hml, hown, hts⟩ (c_X7_typeOf (l := l) (pL (pI M1 y1_0 5 (gI M1 y1_0 3)) y1_0 6 0) (gI (pL (pI M1 y1_0 5 (gI M1 y1_0 3)) y1_0 6 0) b57 (ix (gI (pL (pI M1 y1_0 5 (gI M1 y1_0 3)) y1_0 6 0) y1_0 5))) h59) (va_cwS 1 hts gX7_advance_X7_typeOf rfl rfl rfl hdS_X7_typeOf ⟨Nat.le_of_ble_eq_true rfl, Nat.le_of_ble_eq_true rfl⟩) (pS hP hK hD hT hG hS) rfl rfl hl.1 rfl (lv_room (Nat.le_of_ble_eq_true rfl)) dX7_advance_72 ⟨Nat.zero_le _, Nat.zero_le _⟩) hS (fun H locs hP hD hT hS => ?_)
            refine lv_goto (tgt := 79) hx hb dX7_advance_75 rfl ?_
            refine r_putI (T := TX7) (ty := .int) (v := z59) hx hb hts in7 tyX7 tyX7_ok nmX7 hown hK hP hD hT hS ky1_0 (by decide) rfl 4 (by decide) (hts (.fieldLink RX7 45 "StoneWalk$Tape" "type" "I") (List.mem_of_getElem? (i := 6) (by decide +kernel))) rfl rfl (tyX7_ok 4 (by decide)) rfl rfl rfl dX7_advance_79 (fun H locs hP hD hT hS => ?_)
            exact J33 (pI (pL (pI M1 y1_0 5 (gI M1 y1_0 3)) y1_0 6 0) y1_0 4 z59) y1_0 ky1_0 _ _ h hP hD hT hS ls (lv_sub hl [0] rfl)
        · replace h := ite_t c32 h
          refine lv_aload_n hx hb dX7_advance_25 rfl (lv_at hl 0 rfl) ?_
          refine lv_dup hx hb dX7_advance_26 rfl ?_
          refine r_get (T := TX7) (v := .int (gI M1 y1_0 3)) hx hb hts in7 hown hK hP ky1_0 (by decide) rfl 3 (by decide) (hts (.fieldLink RX7 28 "StoneWalk$Tape" "next" "I") (List.mem_of_getElem? (i := 1) (by decide +kernel))) rfl (t := 0) rfl rfl dX7_advance_27 ?_
          refine lv_iconst (v := 1) hx hb dX7_advance_30 rfl ?_
          refine lv_iadd hx hb dX7_advance_31 ?_
          refine r_putI (T := TX7) (ty := .int) (v := (gI M1 y1_0 3) + 1) hx hb hts in7 tyX7 tyX7_ok nmX7 hown hK hP hD hT hS ky1_0 (by decide) rfl 3 (by decide) (hts (.fieldLink RX7 28 "StoneWalk$Tape" "next" "I") (List.mem_of_getElem? (i := 1) (by decide +kernel))) rfl rfl (tyX7_ok 3 (by decide)) rfl rfl rfl dX7_advance_32 (fun H locs hP hD hT hS => ?_)
          refine lv_goto (tgt := 0) hx hb dX7_advance_35 rfl ?_
          exact ih1 (pI M1 y1_0 3 ((gI M1 y1_0 3) + 1)) y1_0 ky1_0 _ _ h hP hD hT hS ls (lv_sub hl [0] rfl)
  exact L1 FU M a0 k0 _ _ h hP hD hT hS ls (lv_sub hl [0] rfl)
set_option maxHeartbeats 4000000 in
set_option maxRecDepth 100000 in
theorem c_X7_begin {l : Launch} {D : va_G} {ad : Nat → Nat} {cy : Nat → ClassId} {A : Nat → Prop} {g : CG} {q : SE} (M : MM) (a0 : Nat) (x1 : Int32) (k0 : ok g a0 7 0) {Z : MM} (h : f_X7_begin M a0 x1 = some Z) : Met l yX7_begin wsX7_begin ({ frames := 2, cells := 0, slots := 0, locals := 43 }) (va_Pc [.ref (ad a0), .int x1] (Wd D ad cy A g q M)) (va_Qv (fun u => u = Z) (Wd D ad cy A g q) A) 0 0 A := by
  refine Met.ofW (cc := cX7_begin) (maxL := 2) (ret := none) (by decide) rfl ?_
  intro p e s m args below meth c s₁ B hml hv
  obtain ⟨rfl, hP, hK, hD, hT, hG⟩ := hv
  have hx := B.exec
  have hb := B.bytes
  have hr := B.returns
  have hts := atoms_spec (ws := wsX7_begin) B.pre
  have hown : s.vm.findClass RX7 = some m.cls := findClass_of_methodNamed B.named
  have hlocks := B.notSynchronized
  have in7 : ∀ w ∈ u_ws RX7 TX7 7, w ∈ wsX7_begin := fun w h => List.mem_cons_of_mem _ (List.mem_append_right _ h)
  have hS : va_S A s.heap s.heap [] := va_S.rf
  have hl := lv_entry ([.ref (ad a0), .int x1]) (n := 2) (Nat.le_of_ble_eq_true rfl)
  rw [lg_entry_eq]
  generalize (lg_sl ([.ref (ad a0), .int x1]) ++ List.replicate (2 - (lg_sl ([.ref (ad a0), .int x1])).length) Slot.unset).toArray = ls at hl ⊢
  have hl : lv_has ls 2 [(0, .ref (ad a0)), (1, .int x1)] := hl
  unfold f_X7_begin at h
  refine lv_aload_n hx hb dX7_begin_0 rfl (lv_at hl 0 rfl) ?_
  refine lv_iload_n hx hb dX7_begin_1 rfl (lv_at hl 1 rfl) ?_
  refine lv_aload_n hx hb dX7_begin_2 rfl (lv_at hl 0 rfl) ?_
  rcases hN1 : gR M a0 0 with _ | b1
  · exact absurd (oc_n hN1 h) (by simp)
  replace h := oc_s hN1 h
  have kb1 := hT.f k0 (k := 0) (t := 14) (n := 900) rfl hN1
  refine r_get (T := TX7) (v := .ref (ad b1)) hx hb hts in7 hown hK hP k0 (by decide) rfl 0 (by decide) (hts (.fieldLink RX7 9 "StoneWalk$Tape" "bytes" "[B") (List.mem_of_getElem? (i := 1) (by decide +kernel))) rfl (t := 2) rfl (by show va_rf _ = _; rw [hN1]; rfl) dX7_begin_3 ?_
  refine r_alen (t0 := 0) (v := 900) hx hb hK hP kb1 (by decide) rfl rfl dX7_begin_6 ?_
  refine va_mmin hx hb (hml.trans hl.1.symm) hown (hts (.methodLink RX7 19 Lib.Math.min.name) (List.mem_of_getElem? (i := 2) (by decide +kernel))) (hts (.static Lib.Math.min.name) (List.mem_of_getElem? (i := 3) (by decide +kernel))) (hts (.initialized "java/lang/Math") (List.mem_of_getElem? (i := 4) (by decide +kernel))) (hts (.code Lib.Math.min.name Lib.Math.min.code 2 (some .int)) (List.mem_of_getElem? (i := 5) (by decide +kernel))) (Nat.le_of_ble_eq_true rfl) (Nat.le_of_ble_eq_true rfl) (Nat.zero_le _) (Nat.zero_le _) dX7_begin_7 ?_
  refine r_putI (T := TX7) (ty := .int) (v := if 900 < x1 then 900 else x1) hx hb hts in7 tyX7 tyX7_ok nmX7 hown hK hP hD hT hS k0 (by decide) rfl 2 (by decide) (hts (.fieldLink RX7 25 "StoneWalk$Tape" "end" "I") (List.mem_of_getElem? (i := 6) (by decide +kernel))) rfl rfl (tyX7_ok 2 (by decide)) rfl rfl rfl dX7_begin_10 (fun H locs hP hD hT hS => ?_)
  refine lv_aload_n hx hb dX7_begin_13 rfl (lv_at hl 0 rfl) ?_
  refine lv_iconst (v := 0) hx hb dX7_begin_14 rfl ?_
  refine r_putI (T := TX7) (ty := .int) (v := 0) hx hb hts in7 tyX7 tyX7_ok nmX7 hown hK hP hD hT hS k0 (by decide) rfl 3 (by decide) (hts (.fieldLink RX7 28 "StoneWalk$Tape" "next" "I") (List.mem_of_getElem? (i := 7) (by decide +kernel))) rfl rfl (tyX7_ok 3 (by decide)) rfl rfl rfl dX7_begin_15 (fun H locs hP hD hT hS => ?_)
  refine lv_aload_n hx hb dX7_begin_18 rfl (lv_at hl 0 rfl) ?_
  obtain ⟨z2, h2, h⟩ := ob_some h
  refine k_v (va_runV (As := []) (rest := []) ⟨hx, hb, hml, hown, hts⟩ (c_X7_advance (l := l) (pI (pI M a0 2 (if 900 < x1 then 900 else x1)) a0 3 0) a0 k0 h2) (cwV 0 hts gX7_begin_X7_advance rfl rfl rfl hdV_X7_advance ⟨Nat.le_of_ble_eq_true rfl, Nat.le_of_ble_eq_true rfl⟩) (pV (T := TX7) hP hK hD hT hG hS k0 (by decide) rfl) rfl rfl hl.1 rfl (lv_room (Nat.le_of_ble_eq_true rfl)) dX7_begin_19 ⟨Nat.zero_le _, Nat.zero_le _⟩) hS (fun H locs hP hD hT hS => ?_)
  exact r_vret hx hb hr hlocks hP hK hD hT hG hS (Option.some.inj h) dX7_begin_22
set_option maxHeartbeats 4000000 in
set_option maxRecDepth 100000 in
theorem c_J0_coder_7d493 {l : Launch} {D : va_G} {ad : Nat → Nat} {cy : Nat → ClassId} {A : Nat → Prop} {g : CG} {q : SE} (M : MM) (i0 : Nat) (k0 : i0 < nS) {Z : Int32} (h : f_J0_coder_7d493 M i0 = some Z) : Met l yJ0_coder_7d493 wsJ0_coder_7d493 ({ frames := 0, cells := 0, slots := 0, locals := 0 }) (va_Pc [.ref (q.2.1 i0)] (Wd D ad cy A g q M)) (va_Qi (fun r u => r = Z ∧ u = M) (Wd D ad cy A g q) A) 0 0 A := by
  refine Met.ofW (cc := cJ0_coder_7d493) (maxL := 1) (ret := (some .byte)) (by decide) rfl ?_
  intro p e s m args below meth c s₁ B hml hv
  obtain ⟨rfl, hP, hK, hD, hT, hG⟩ := hv
  have hx := B.exec
  have hb := B.bytes
  have hr := B.returns
  have hts := atoms_spec (ws := wsJ0_coder_7d493) B.pre
  have hown : s.vm.findClass RJ0 = some m.cls := findClass_of_methodNamed B.named
  have hlocks := B.notSynchronized
  have hS : va_S A s.heap s.heap [] := va_S.rf
  have hl := lv_entry ([.ref (q.2.1 i0)]) (n := 1) (Nat.le_of_ble_eq_true rfl)
  rw [lg_entry_eq]
  generalize (lg_sl ([.ref (q.2.1 i0)]) ++ List.replicate (1 - (lg_sl ([.ref (q.2.1 i0)])).length) Slot.unset).toArray = ls at hl ⊢
  have hl : lv_has ls 1 [(0, .ref (q.2.1 i0))] := hl
  unfold f_J0_coder_7d493 at h
  refine r_comp hx hb hG hS hown (hts (.fieldLink RJ0 38 "java/lang/String" "COMPACT_STRINGS" "Z") (List.mem_of_getElem? (i := 1) (by decide +kernel))) dJ0_coder_7d493_0 ?_
  refine lv_if_eq (tgt := 13) hx hb dJ0_coder_7d493_3 rfl (fun c1 => absurd c1 (by decide)) (fun _ => ?_)
  refine lv_aload_n hx hb dJ0_coder_7d493_6 rfl (lv_at hl 0 rfl) ?_
  refine r_scod hx hb hG hS hown k0 (hts (.fieldLink RJ0 15 "java/lang/String" "coder" "B") (List.mem_of_getElem? (i := 2) (by decide +kernel))) dJ0_coder_7d493_7 ?_
  refine lv_goto (tgt := 14) hx hb dJ0_coder_7d493_10 rfl ?_
  exact r_bret hx hb hr hlocks hP hK hD hT hG hS rfl (Option.some.inj h) rfl dJ0_coder_7d493_14
set_option maxHeartbeats 4000000 in
set_option maxRecDepth 100000 in
theorem c_J0_length_8abf5 {l : Launch} {D : va_G} {ad : Nat → Nat} {cy : Nat → ClassId} {A : Nat → Prop} {g : CG} {q : SE} (M : MM) (i0 : Nat) (k0 : i0 < nS) {Z : Int32} (h : f_J0_length_8abf5 M i0 = some Z) : Met l yJ0_length_8abf5 wsJ0_length_8abf5 ({ frames := 1, cells := 0, slots := 0, locals := 20 }) (va_Pc [.ref (q.2.1 i0)] (Wd D ad cy A g q M)) (va_Qi (fun r u => r = Z ∧ u = M) (Wd D ad cy A g q) A) 0 0 A := by
  refine Met.ofW (cc := cJ0_length_8abf5) (maxL := 1) (ret := (some .int)) (by decide) rfl ?_
  intro p e s m args below meth c s₁ B hml hv
  obtain ⟨rfl, hP, hK, hD, hT, hG⟩ := hv
  have hx := B.exec
  have hb := B.bytes
  have hr := B.returns
  have hts := atoms_spec (ws := wsJ0_length_8abf5) B.pre
  have hown : s.vm.findClass RJ0 = some m.cls := findClass_of_methodNamed B.named
  have hlocks := B.notSynchronized
  have hS : va_S A s.heap s.heap [] := va_S.rf
  have hl := lv_entry ([.ref (q.2.1 i0)]) (n := 1) (Nat.le_of_ble_eq_true rfl)
  rw [lg_entry_eq]
  generalize (lg_sl ([.ref (q.2.1 i0)]) ++ List.replicate (1 - (lg_sl ([.ref (q.2.1 i0)])).length) Slot.unset).toArray = ls at hl ⊢
  have hl : lv_has ls 1 [(0, .ref (q.2.1 i0))] := hl
  unfold f_J0_length_8abf5 at h
  refine lv_aload_n hx hb dJ0_length_8abf5_0 rfl (lv_at hl 0 rfl) ?_
  refine r_sval hx hb hG hS hown k0 (hts (.fieldLink RJ0 9 "java/lang/String" "value" "[B") (List.mem_of_getElem? (i := 1) (by decide +kernel))) dJ0_length_8abf5_1 ?_
  refine r_tlen hx hb hG hS k0 dJ0_length_8abf5_4 ?_
  refine lv_aload_n hx hb dJ0_length_8abf5_5 rfl (lv_at hl 0 rfl) ?_
  obtain ⟨z1, h1, h⟩ := ob_some h
  refine k_i (va_runV (As := []) (rest := [.int (nI (lenS.getD i0 0))]) ⟨hx, hb, hml, hown, hts⟩ (c_J0_coder_7d493 (l := l) M i0 k0 h1) (cwV 0 hts gJ0_length_8abf5_J0_coder_7d493 rfl rfl rfl hdV_J0_coder_7d493 ⟨Nat.le_of_ble_eq_true rfl, Nat.le_of_ble_eq_true rfl⟩) (pT hP hK hD hT hG hS k0) rfl rfl hl.1 rfl (lv_room (Nat.le_of_ble_eq_true rfl)) dJ0_length_8abf5_6 ⟨Nat.zero_le _, Nat.zero_le _⟩) hS (fun H locs hP hD hT hS => ?_)
  refine lv_ishr hx hb dJ0_length_8abf5_9 ?_
  exact r_iret hx hb hr hlocks hP hK hD hT hG hS (Option.some.inj h) rfl dJ0_length_8abf5_10
set_option maxHeartbeats 4000000 in
set_option maxRecDepth 100000 in
theorem c_J0_isLatin1_aae02 {l : Launch} {D : va_G} {ad : Nat → Nat} {cy : Nat → ClassId} {A : Nat → Prop} {g : CG} {q : SE} (M : MM) (i0 : Nat) (k0 : i0 < nS) {Z : Int32} (h : f_J0_isLatin1_aae02 M i0 = some Z) : Met l yJ0_isLatin1_aae02 wsJ0_isLatin1_aae02 ({ frames := 0, cells := 0, slots := 0, locals := 0 }) (va_Pc [.ref (q.2.1 i0)] (Wd D ad cy A g q M)) (va_Qi (fun r u => r = Z ∧ u = M ∧ zb r) (Wd D ad cy A g q) A) 0 0 A := by
  refine Met.ofW (cc := cJ0_isLatin1_aae02) (maxL := 1) (ret := (some .boolean)) (by decide) rfl ?_
  intro p e s m args below meth c s₁ B hml hv
  obtain ⟨rfl, hP, hK, hD, hT, hG⟩ := hv
  have hx := B.exec
  have hb := B.bytes
  have hr := B.returns
  have hts := atoms_spec (ws := wsJ0_isLatin1_aae02) B.pre
  have hown : s.vm.findClass RJ0 = some m.cls := findClass_of_methodNamed B.named
  have hlocks := B.notSynchronized
  have hS : va_S A s.heap s.heap [] := va_S.rf
  have hl := lv_entry ([.ref (q.2.1 i0)]) (n := 1) (Nat.le_of_ble_eq_true rfl)
  rw [lg_entry_eq]
  generalize (lg_sl ([.ref (q.2.1 i0)]) ++ List.replicate (1 - (lg_sl ([.ref (q.2.1 i0)])).length) Slot.unset).toArray = ls at hl ⊢
  have hl : lv_has ls 1 [(0, .ref (q.2.1 i0))] := hl
  unfold f_J0_isLatin1_aae02 at h
  refine r_comp hx hb hG hS hown (hts (.fieldLink RJ0 38 "java/lang/String" "COMPACT_STRINGS" "Z") (List.mem_of_getElem? (i := 1) (by decide +kernel))) dJ0_isLatin1_aae02_0 ?_
  refine lv_if_eq (tgt := 17) hx hb dJ0_isLatin1_aae02_3 rfl (fun c1 => absurd c1 (by decide)) (fun _ => ?_)
  refine lv_aload_n hx hb dJ0_isLatin1_aae02_6 rfl (lv_at hl 0 rfl) ?_
  refine r_scod hx hb hG hS hown k0 (hts (.fieldLink RJ0 15 "java/lang/String" "coder" "B") (List.mem_of_getElem? (i := 2) (by decide +kernel))) dJ0_isLatin1_aae02_7 ?_
  refine lv_if_ne (tgt := 17) hx hb dJ0_isLatin1_aae02_10 rfl (fun c2 => absurd c2 (by decide)) (fun _ => ?_)
  refine lv_iconst (v := 1) hx hb dJ0_isLatin1_aae02_13 rfl ?_
  refine lv_goto (tgt := 18) hx hb dJ0_isLatin1_aae02_14 rfl ?_
  exact r_zret hx hb hr hlocks hP hK hD hT hG hS zb_1 (Option.some.inj h) rfl dJ0_isLatin1_aae02_18
set_option maxHeartbeats 4000000 in
set_option maxRecDepth 100000 in
theorem c_J3_checkIndex_8e157 {l : Launch} {D : va_G} {ad : Nat → Nat} {cy : Nat → ClassId} {A : Nat → Prop} {g : CG} {q : SE} (M : MM) (x0 : Int32) (x1 : Int32) (r2 : Option Nat) {Z : Int32} (h : f_J3_checkIndex_8e157 M x0 x1 r2 = some Z) : Met l yJ3_checkIndex_8e157 wsJ3_checkIndex_8e157 ({ frames := 0, cells := 0, slots := 0, locals := 0 }) (va_Pc [.int x0, .int x1, va_rf r2] (Wd D ad cy A g q M)) (va_Qi (fun r u => r = Z ∧ u = M) (Wd D ad cy A g q) A) 0 0 A := by
  refine Met.ofW (cc := cJ3_checkIndex_8e157) (maxL := 3) (ret := (some .int)) (by decide) rfl ?_
  intro p e s m args below meth c s₁ B hml hv
  obtain ⟨rfl, hP, hK, hD, hT, hG⟩ := hv
  have hx := B.exec
  have hb := B.bytes
  have hr := B.returns
  have hts := atoms_spec (ws := wsJ3_checkIndex_8e157) B.pre
  have hown : s.vm.findClass RJ3 = some m.cls := findClass_of_methodNamed B.named
  have hlocks := B.notSynchronized
  have hS : va_S A s.heap s.heap [] := va_S.rf
  unfold f_J3_checkIndex_8e157 at h
  rcases r2 with _ | b2
  · skip
    have hl := lv_entry ([.int x0, .int x1, va_rf none]) (n := 3) (Nat.le_of_ble_eq_true rfl)
    rw [lg_entry_eq]
    generalize (lg_sl ([.int x0, .int x1, va_rf none]) ++ List.replicate (3 - (lg_sl ([.int x0, .int x1, va_rf none])).length) Slot.unset).toArray = ls at hl ⊢
    have hl : lv_has ls 3 [(0, .int x0), (1, .int x1), (2, .null)] := hl
    refine lv_iload_n hx hb dJ3_checkIndex_8e157_0 rfl (lv_at hl 0 rfl) ?_
    refine lv_if_lt (tgt := 9) hx hb dJ3_checkIndex_8e157_1 rfl (fun c1 => ?_) (fun c1 => ?_)
    · replace h := ite_t c1 h
      refine lv_aload_nN hx hb dJ3_checkIndex_8e157_9 rfl (lv_at hl 2 rfl) ?_
      refine lv_iload_n hx hb dJ3_checkIndex_8e157_10 rfl (lv_at hl 0 rfl) ?_
      refine lv_iload_n hx hb dJ3_checkIndex_8e157_11 rfl (lv_at hl 1 rfl) ?_
      exact absurd h (by simp)
    · replace h := ite_f c1 h
      refine lv_iload_n hx hb dJ3_checkIndex_8e157_4 rfl (lv_at hl 0 rfl) ?_
      refine lv_iload_n hx hb dJ3_checkIndex_8e157_5 rfl (lv_at hl 1 rfl) ?_
      refine lv_icmp_lt (tgt := 16) hx hb dJ3_checkIndex_8e157_6 rfl (fun c2 => ?_) (fun c2 => ?_)
      · replace h := ite_t c2 h
        refine lv_iload_n hx hb dJ3_checkIndex_8e157_16 rfl (lv_at hl 0 rfl) ?_
        exact r_iret hx hb hr hlocks hP hK hD hT hG hS (Option.some.inj h) rfl dJ3_checkIndex_8e157_17
      · replace h := ite_f c2 h
        refine lv_aload_nN hx hb dJ3_checkIndex_8e157_9 rfl (lv_at hl 2 rfl) ?_
        refine lv_iload_n hx hb dJ3_checkIndex_8e157_10 rfl (lv_at hl 0 rfl) ?_
        refine lv_iload_n hx hb dJ3_checkIndex_8e157_11 rfl (lv_at hl 1 rfl) ?_
        exact absurd h (by simp)
  · skip
    have hl := lv_entry ([.int x0, .int x1, va_rf (some b2)]) (n := 3) (Nat.le_of_ble_eq_true rfl)
    rw [lg_entry_eq]
    generalize (lg_sl ([.int x0, .int x1, va_rf (some b2)]) ++ List.replicate (3 - (lg_sl ([.int x0, .int x1, va_rf (some b2)])).length) Slot.unset).toArray = ls at hl ⊢
    have hl : lv_has ls 3 [(0, .int x0), (1, .int x1), (2, .ref b2)] := hl
    refine lv_iload_n hx hb dJ3_checkIndex_8e157_0 rfl (lv_at hl 0 rfl) ?_
    refine lv_if_lt (tgt := 9) hx hb dJ3_checkIndex_8e157_1 rfl (fun c3 => ?_) (fun c3 => ?_)
    · replace h := ite_t c3 h
      refine lv_aload_n hx hb dJ3_checkIndex_8e157_9 rfl (lv_at hl 2 rfl) ?_
      refine lv_iload_n hx hb dJ3_checkIndex_8e157_10 rfl (lv_at hl 0 rfl) ?_
      refine lv_iload_n hx hb dJ3_checkIndex_8e157_11 rfl (lv_at hl 1 rfl) ?_
      exact absurd h (by simp)
    · replace h := ite_f c3 h
      refine lv_iload_n hx hb dJ3_checkIndex_8e157_4 rfl (lv_at hl 0 rfl) ?_
      refine lv_iload_n hx hb dJ3_checkIndex_8e157_5 rfl (lv_at hl 1 rfl) ?_
      refine lv_icmp_lt (tgt := 16) hx hb dJ3_checkIndex_8e157_6 rfl (fun c4 => ?_) (fun c4 => ?_)
      · replace h := ite_t c4 h
        refine lv_iload_n hx hb dJ3_checkIndex_8e157_16 rfl (lv_at hl 0 rfl) ?_
        exact r_iret hx hb hr hlocks hP hK hD hT hG hS (Option.some.inj h) rfl dJ3_checkIndex_8e157_17
      · replace h := ite_f c4 h
        refine lv_aload_n hx hb dJ3_checkIndex_8e157_9 rfl (lv_at hl 2 rfl) ?_
        refine lv_iload_n hx hb dJ3_checkIndex_8e157_10 rfl (lv_at hl 0 rfl) ?_
        refine lv_iload_n hx hb dJ3_checkIndex_8e157_11 rfl (lv_at hl 1 rfl) ?_
        exact absurd h (by simp)
set_option maxHeartbeats 4000000 in
set_option maxRecDepth 100000 in
theorem c_J0_checkIndex_df160 {l : Launch} {D : va_G} {ad : Nat → Nat} {cy : Nat → ClassId} {A : Nat → Prop} {g : CG} {q : SE} (M : MM) (x0 : Int32) (x1 : Int32) {Z : Unit} (h : f_J0_checkIndex_df160 M x0 x1 = some Z) : Met l yJ0_checkIndex_df160 wsJ0_checkIndex_df160 ({ frames := 1, cells := 0, slots := 0, locals := 22 }) (va_Pc [.int x0, .int x1] (Wd D ad cy A g q M)) (va_Qv (fun u => u = M) (Wd D ad cy A g q) A) 0 0 A := by
  refine Met.ofW (cc := cJ0_checkIndex_df160) (maxL := 2) (ret := none) (by decide) rfl ?_
  intro p e s m args below meth c s₁ B hml hv
  obtain ⟨rfl, hP, hK, hD, hT, hG⟩ := hv
  have hx := B.exec
  have hb := B.bytes
  have hr := B.returns
  have hts := atoms_spec (ws := wsJ0_checkIndex_df160) B.pre
  have hown : s.vm.findClass RJ0 = some m.cls := findClass_of_methodNamed B.named
  have hlocks := B.notSynchronized
  have hS : va_S A s.heap s.heap [] := va_S.rf
  have hl := lv_entry ([.int x0, .int x1]) (n := 2) (Nat.le_of_ble_eq_true rfl)
  rw [lg_entry_eq]
  generalize (lg_sl ([.int x0, .int x1]) ++ List.replicate (2 - (lg_sl ([.int x0, .int x1])).length) Slot.unset).toArray = ls at hl ⊢
  have hl : lv_has ls 2 [(0, .int x0), (1, .int x1)] := hl
  unfold f_J0_checkIndex_df160 at h
  refine lv_iload_n hx hb dJ0_checkIndex_df160_0 rfl (lv_at hl 0 rfl) ?_
  refine lv_iload_n hx hb dJ0_checkIndex_df160_1 rfl (lv_at hl 1 rfl) ?_
  refine r_sioo hx hb hG hS hown (hts (.fieldLink RJ0 1053 "jdk/internal/util/Preconditions" "SIOOBE_FORMATTER" "Ljava/util/function/BiFunction;") (List.mem_of_getElem? (i := 1) (by decide +kernel))) dJ0_checkIndex_df160_2 (fun rr1 => ?_)
  obtain ⟨z2, h2, h⟩ := ob_some h
  refine k_i (va_runS (As := [.int x0, .int x1, va_rf rr1]) (rest := []) ⟨hx, hb, hml, hown, hts⟩ (c_J3_checkIndex_8e157 (l := l) M x0 x1 rr1 (by rw [f_J3_checkIndex_8e157_any]; exact h2)) (va_cwS 3 hts gJ0_checkIndex_df160_J3_checkIndex_8e157 rfl rfl rfl hdS_J3_checkIndex_8e157 ⟨Nat.le_of_ble_eq_true rfl, Nat.le_of_ble_eq_true rfl⟩) (pS hP hK hD hT hG hS) rfl rfl hl.1 rfl (lv_room (Nat.le_of_ble_eq_true rfl)) dJ0_checkIndex_df160_5 ⟨Nat.zero_le _, Nat.zero_le _⟩) hS (fun H locs hP hD hT hS => ?_)
  refine lv_pop hx hb dJ0_checkIndex_df160_8 rfl ?_
  exact r_vret hx hb hr hlocks hP hK hD hT hG hS rfl dJ0_checkIndex_df160_9
set_option maxHeartbeats 4000000 in
set_option maxRecDepth 100000 in
theorem c_J1_charAt_3b067 {l : Launch} {D : va_G} {ad : Nat → Nat} {cy : Nat → ClassId} {A : Nat → Prop} {g : CG} {q : SE} (M : MM) (i0 : Nat) (x1 : Int32) (k0 : i0 < nS) {Z : Int32} (h : f_J1_charAt_3b067 M i0 x1 = some Z) : Met l yJ1_charAt_3b067 wsJ1_charAt_3b067 ({ frames := 2, cells := 0, slots := 0, locals := 43 }) (va_Pc [.ref (q.2.2 i0), .int x1] (Wd D ad cy A g q M)) (va_Qi (fun r u => r = Z ∧ u = M ∧ narrow .char (.int r) = .int r) (Wd D ad cy A g q) A) 0 0 A := by
  refine Met.ofW (cc := cJ1_charAt_3b067) (maxL := 2) (ret := (some .char)) (by decide) rfl ?_
  intro p e s m args below meth c s₁ B hml hv
  obtain ⟨rfl, hP, hK, hD, hT, hG⟩ := hv
  have hx := B.exec
  have hb := B.bytes
  have hr := B.returns
  have hts := atoms_spec (ws := wsJ1_charAt_3b067) B.pre
  have hown : s.vm.findClass RJ1 = some m.cls := findClass_of_methodNamed B.named
  have hlocks := B.notSynchronized
  have hS : va_S A s.heap s.heap [] := va_S.rf
  have hl := lv_entry ([.ref (q.2.2 i0), .int x1]) (n := 2) (Nat.le_of_ble_eq_true rfl)
  rw [lg_entry_eq]
  generalize (lg_sl ([.ref (q.2.2 i0), .int x1]) ++ List.replicate (2 - (lg_sl ([.ref (q.2.2 i0), .int x1])).length) Slot.unset).toArray = ls at hl ⊢
  have hl : lv_has ls 2 [(0, .ref (q.2.2 i0)), (1, .int x1)] := hl
  unfold f_J1_charAt_3b067 at h
  refine lv_iload_n hx hb dJ1_charAt_3b067_0 rfl (lv_at hl 1 rfl) ?_
  refine lv_aload_n hx hb dJ1_charAt_3b067_1 rfl (lv_at hl 0 rfl) ?_
  refine r_tlen hx hb hG hS k0 dJ1_charAt_3b067_2 ?_
  obtain ⟨z1, h1, h⟩ := ob_some h
  refine k_v (va_runS (As := [.int x1, .int (nI (lenS.getD i0 0))]) (rest := []) ⟨hx, hb, hml, hown, hts⟩ (c_J0_checkIndex_df160 (l := l) M x1 (nI (lenS.getD i0 0)) h1) (va_cwS 2 hts gJ1_charAt_3b067_J0_checkIndex_df160 rfl rfl rfl hdS_J0_checkIndex_df160 ⟨Nat.le_of_ble_eq_true rfl, Nat.le_of_ble_eq_true rfl⟩) (pS hP hK hD hT hG hS) rfl rfl hl.1 rfl (lv_room (Nat.le_of_ble_eq_true rfl)) dJ1_charAt_3b067_3 ⟨Nat.zero_le _, Nat.zero_le _⟩) hS (fun H locs hP hD hT hS => ?_)
  refine lv_aload_n hx hb dJ1_charAt_3b067_6 rfl (lv_at hl 0 rfl) ?_
  refine lv_iload_n hx hb dJ1_charAt_3b067_7 rfl (lv_at hl 1 rfl) ?_
  obtain ⟨hn2, h⟩ := chk_some h
  refine r_tbal hx hb hG hS k0 hn2 dJ1_charAt_3b067_8 ?_
  refine lv_sipush (v := 255) hx hb dJ1_charAt_3b067_9 rfl ?_
  refine lv_iand hx hb dJ1_charAt_3b067_12 ?_
  refine lv_i2c hx hb dJ1_charAt_3b067_13 rfl ?_
  exact r_cret hx hb hr hlocks hP hK hD hT hG hS (ch_nar _) (Option.some.inj h) rfl dJ1_charAt_3b067_14
set_option maxHeartbeats 4000000 in
set_option maxRecDepth 100000 in
theorem c_J0_charAt_5068e {l : Launch} {D : va_G} {ad : Nat → Nat} {cy : Nat → ClassId} {A : Nat → Prop} {g : CG} {q : SE} (M : MM) (i0 : Nat) (x1 : Int32) (k0 : i0 < nS) {Z : Int32} (h : f_J0_charAt_5068e M i0 x1 = some Z) : Met l yJ0_charAt_5068e wsJ0_charAt_5068e ({ frames := 3, cells := 0, slots := 0, locals := 64 }) (va_Pc [.ref (q.2.1 i0), .int x1] (Wd D ad cy A g q M)) (va_Qi (fun r u => r = Z ∧ u = M ∧ narrow .char (.int r) = .int r) (Wd D ad cy A g q) A) 0 0 A := by
  refine Met.ofW (cc := cJ0_charAt_5068e) (maxL := 2) (ret := (some .char)) (by decide) rfl ?_
  intro p e s m args below meth c s₁ B hml hv
  obtain ⟨rfl, hP, hK, hD, hT, hG⟩ := hv
  have hx := B.exec
  have hb := B.bytes
  have hr := B.returns
  have hts := atoms_spec (ws := wsJ0_charAt_5068e) B.pre
  have hown : s.vm.findClass RJ0 = some m.cls := findClass_of_methodNamed B.named
  have hlocks := B.notSynchronized
  have hS : va_S A s.heap s.heap [] := va_S.rf
  have hl := lv_entry ([.ref (q.2.1 i0), .int x1]) (n := 2) (Nat.le_of_ble_eq_true rfl)
  rw [lg_entry_eq]
  generalize (lg_sl ([.ref (q.2.1 i0), .int x1]) ++ List.replicate (2 - (lg_sl ([.ref (q.2.1 i0), .int x1])).length) Slot.unset).toArray = ls at hl ⊢
  have hl : lv_has ls 2 [(0, .ref (q.2.1 i0)), (1, .int x1)] := hl
  unfold f_J0_charAt_5068e at h
  refine lv_aload_n hx hb dJ0_charAt_5068e_0 rfl (lv_at hl 0 rfl) ?_
  obtain ⟨z1, h1, h⟩ := ob_some h
  refine k_z (va_runV (As := []) (rest := []) ⟨hx, hb, hml, hown, hts⟩ (c_J0_isLatin1_aae02 (l := l) M i0 k0 h1) (cwV 0 hts gJ0_charAt_5068e_J0_isLatin1_aae02 rfl rfl rfl hdV_J0_isLatin1_aae02 ⟨Nat.le_of_ble_eq_true rfl, Nat.le_of_ble_eq_true rfl⟩) (pT hP hK hD hT hG hS k0) rfl rfl hl.1 rfl (lv_room (Nat.le_of_ble_eq_true rfl)) dJ0_charAt_5068e_1 ⟨Nat.zero_le _, Nat.zero_le _⟩) hS (fun H locs hz1 hP hD hT hS => ?_)
  refine lv_if_eq (tgt := 16) hx hb dJ0_charAt_5068e_4 rfl (fun c2 => ?_) (fun c2 => ?_)
  · replace h := ite_t c2 h
    refine lv_aload_n hx hb dJ0_charAt_5068e_16 rfl (lv_at hl 0 rfl) ?_
    refine r_sval hx hb hG hS hown k0 (hts (.fieldLink RJ0 9 "java/lang/String" "value" "[B") (List.mem_of_getElem? (i := 1) (by decide +kernel))) dJ0_charAt_5068e_17 ?_
    refine lv_iload_n hx hb dJ0_charAt_5068e_20 rfl (lv_at hl 1 rfl) ?_
    exact absurd h (by simp)
  · replace h := ite_f c2 h
    refine lv_aload_n hx hb dJ0_charAt_5068e_7 rfl (lv_at hl 0 rfl) ?_
    refine r_sval hx hb hG hS hown k0 (hts (.fieldLink RJ0 9 "java/lang/String" "value" "[B") (List.mem_of_getElem? (i := 1) (by decide +kernel))) dJ0_charAt_5068e_8 ?_
    refine lv_iload_n hx hb dJ0_charAt_5068e_11 rfl (lv_at hl 1 rfl) ?_
    obtain ⟨z3, h3, h⟩ := ob_some h
    refine k_c (va_runS (As := [.ref (q.2.2 i0), .int x1]) (rest := []) ⟨hx, hb, hml, hown, hts⟩ (c_J1_charAt_3b067 (l := l) M i0 x1 k0 h3) (va_cwS 2 hts gJ0_charAt_5068e_J1_charAt_3b067 rfl rfl rfl hdS_J1_charAt_3b067 ⟨Nat.le_of_ble_eq_true rfl, Nat.le_of_ble_eq_true rfl⟩) (pS hP hK hD hT hG hS) rfl rfl hl.1 rfl (lv_room (Nat.le_of_ble_eq_true rfl)) dJ0_charAt_5068e_12 ⟨Nat.zero_le _, Nat.zero_le _⟩) hS (fun H locs hz3 hP hD hT hS => ?_)
    exact r_cret hx hb hr hlocks hP hK hD hT hG hS hz3 (Option.some.inj h) rfl dJ0_charAt_5068e_15
set_option maxHeartbeats 4000000 in
set_option maxRecDepth 100000 in
theorem c_X7_among {l : Launch} {D : va_G} {ad : Nat → Nat} {cy : Nat → ClassId} {A : Nat → Prop} {g : CG} {q : SE} (M : MM) (a0 : Nat) (i1 : Nat) (k0 : ok g a0 7 0) (k1 : i1 < nS) {Z : Int32} (h : f_X7_among M a0 i1 = some Z) : Met l yX7_among wsX7_among ({ frames := 4, cells := 0, slots := 0, locals := 85 }) (va_Pc [.ref (ad a0), .ref (q.2.1 i1)] (Wd D ad cy A g q M)) (va_Qi (fun r u => r = Z ∧ u = M) (Wd D ad cy A g q) A) 0 0 A := by
  refine Met.ofW (cc := cX7_among) (maxL := 7) (ret := (some .int)) (by decide) rfl ?_
  intro p e s m args below meth c s₁ B hml hv
  obtain ⟨rfl, hP, hK, hD, hT, hG⟩ := hv
  have hx := B.exec
  have hb := B.bytes
  have hr := B.returns
  have hts := atoms_spec (ws := wsX7_among) B.pre
  have hown : s.vm.findClass RX7 = some m.cls := findClass_of_methodNamed B.named
  have hlocks := B.notSynchronized
  have in7 : ∀ w ∈ u_ws RX7 TX7 7, w ∈ wsX7_among := fun w h => List.mem_cons_of_mem _ (List.mem_append_right _ h)
  have hS : va_S A s.heap s.heap [] := va_S.rf
  have hl := lv_entry ([.ref (ad a0), .ref (q.2.1 i1)]) (n := 7) (Nat.le_of_ble_eq_true rfl)
  rw [lg_entry_eq]
  generalize (lg_sl ([.ref (ad a0), .ref (q.2.1 i1)]) ++ List.replicate (7 - (lg_sl ([.ref (ad a0), .ref (q.2.1 i1)])).length) Slot.unset).toArray = ls at hl ⊢
  have hl : lv_has ls 7 [(0, .ref (ad a0)), (1, .ref (q.2.1 i1))] := hl
  unfold f_X7_among at h
  refine lv_aload_n hx hb dX7_among_0 rfl (lv_at hl 0 rfl) ?_
  refine r_get (T := TX7) (v := .int (gI M a0 4)) hx hb hts in7 hown hK hP k0 (by decide) rfl 4 (by decide) (hts (.fieldLink RX7 45 "StoneWalk$Tape" "type" "I") (List.mem_of_getElem? (i := 1) (by decide +kernel))) rfl (t := 0) rfl rfl dX7_among_1 ?_
  refine lv_iconst (v := 1) hx hb dX7_among_4 rfl ?_
  refine lv_icmp_eq (tgt := 10) hx hb dX7_among_5 rfl (fun c1 => ?_) (fun c1 => ?_)
  · replace h := ite_t c1 h
    refine lv_iconst (v := 0) hx hb dX7_among_10 rfl ?_
    refine lv_istore_n (lv' := [(2, .int 0), (0, .ref (ad a0)), (1, .ref (q.2.1 i1))]) hx hb dX7_among_11 rfl hl (by decide) rfl (fun ls hl => ?_)
    refine lv_lconst (v := 0) hx hb dX7_among_12 rfl ?_
    refine lv_lstore_n (lv' := [(3, .long 0), (2, .int 0), (0, .ref (ad a0)), (1, .ref (q.2.1 i1))]) hx hb dX7_among_13 rfl hl (by decide) rfl (fun ls hl => ?_)
    refine lv_iconst (v := 0) hx hb dX7_among_14 rfl ?_
    refine lv_istore (lv' := [(5, .int 0), (3, .long 0), (2, .int 0), (0, .ref (ad a0)), (1, .ref (q.2.1 i1))]) hx hb dX7_among_15 hl (by decide) rfl (fun ls hl => ?_)
    have L2 : ∀ n2 : Nat, ∀ (y2_0 : Nat) (y2_1 : Nat) (y2_2 : Int32) (y2_3 : Int64) (y2_5 : Int32) (ky2_0 : ok g y2_0 7 0) (ky2_1 : y2_1 < nS) (H : Heap) (locs : List Loc), f_X7_among_L17 n2 M y2_0 y2_1 y2_2 y2_3 y2_5 = some Z → va_P D vwCl (wd ad cy g M) H → va_D A (wd ad cy g M) → WT g M → va_S A s.heap H locs → ∀ (ls : Array Slot), lv_has ls 7 [(0, .ref (ad y2_0)), (1, .ref (q.2.1 y2_1)), (2, .int y2_2), (3, .long y2_3), (5, .int y2_5)] → W p l e ((headSpec wsX7_among ({ frames := 4, cells := 0, slots := 0, locals := 85 })).room) s m (([.ref (ad a0), .ref (q.2.1 i1)] : List Value).toArray) below meth c H locs 0 0 (MQ below (va_Qi (fun r u => r = Z ∧ u = M) (Wd D ad cy A g q) A) ([.ref (ad a0), .ref (q.2.1 i1)]).toArray s 0 0 A) (F0 m 17 ls []) := by
      intro n2
      induction n2 with
      | zero => intro y2_0 y2_1 y2_2 y2_3 y2_5 ky2_0 ky2_1 H locs h; exact absurd h (by simp [f_X7_among_L17])
      | succ n2 ih2 =>
        intro y2_0 y2_1 y2_2 y2_3 y2_5 ky2_0 ky2_1 H locs h hP hD hT hS ls hl
        rw [f_X7_among_L17] at h
        refine lv_iload hx hb dX7_among_17 (lv_at hl 4 rfl) ?_
        refine lv_aload_n hx hb dX7_among_19 rfl (lv_at hl 1 rfl) ?_
        obtain ⟨z3, h3, h⟩ := ob_some h
        refine k_i (va_runV (As := []) (rest := [.int y2_5]) ⟨hx, hb, hml, hown, hts⟩ (c_J0_length_8abf5 (l := l) M y2_1 ky2_1 h3) (cwV 0 hts gX7_among_J0_length_8abf5 rfl rfl rfl hdV_J0_length_8abf5 ⟨Nat.le_of_ble_eq_true rfl, Nat.le_of_ble_eq_true rfl⟩) (pT hP hK hD hT hG hS ky2_1) rfl rfl hl.1 rfl (lv_room (Nat.le_of_ble_eq_true rfl)) dX7_among_20 ⟨Nat.zero_le _, Nat.zero_le _⟩) hS (fun H locs hP hD hT hS => ?_)
        refine lv_icmp_ge (tgt := 80) hx hb dX7_among_23 rfl (fun c4 => ?_) (fun c4 => ?_)
        · replace h := ite_t c4 h
          refine lv_lload_n hx hb dX7_among_80 rfl (lv_at hl 3 rfl) ?_
          refine lv_aload_n hx hb dX7_among_81 rfl (lv_at hl 0 rfl) ?_
          refine r_get (T := TX7) (v := .long (gL M y2_0 6)) hx hb hts in7 hown hK hP ky2_0 (by decide) rfl 6 (by decide) (hts (.fieldLink RX7 37 "StoneWalk$Tape" "value" "J") (List.mem_of_getElem? (i := 4) (by decide +kernel))) rfl (t := 1) rfl rfl dX7_among_82 ?_
          refine W.lcmp hx hb dX7_among_85 ?_
          refine lv_if_ne (tgt := 93) hx hb dX7_among_86 rfl (fun c5 => ?_) (fun c5 => ?_)
          · replace h := ite_f c5 h
            refine lv_iconst (v := (-1)) hx hb dX7_among_93 rfl ?_
            exact r_iret hx hb hr hlocks hP hK hD hT hG hS (Option.some.inj h) rfl dX7_among_94
          · replace h := ite_t c5 h
            refine lv_iload_n hx hb dX7_among_89 rfl (lv_at hl 2 rfl) ?_
            refine lv_goto (tgt := 94) hx hb dX7_among_90 rfl ?_
            exact r_iret hx hb hr hlocks hP hK hD hT hG hS (Option.some.inj h) rfl dX7_among_94
        · replace h := ite_f c4 h
          refine lv_aload_n hx hb dX7_among_26 rfl (lv_at hl 1 rfl) ?_
          refine lv_iload hx hb dX7_among_27 (lv_at hl 4 rfl) ?_
          obtain ⟨z6, h6, h⟩ := ob_some h
          refine k_c (va_runV (As := [.int y2_5]) (rest := []) ⟨hx, hb, hml, hown, hts⟩ (c_J0_charAt_5068e (l := l) M y2_1 y2_5 ky2_1 h6) (cwV 1 hts gX7_among_J0_charAt_5068e rfl rfl rfl hdV_J0_charAt_5068e ⟨Nat.le_of_ble_eq_true rfl, Nat.le_of_ble_eq_true rfl⟩) (pT hP hK hD hT hG hS ky2_1) rfl rfl hl.1 rfl (lv_room (Nat.le_of_ble_eq_true rfl)) dX7_among_29 ⟨Nat.zero_le _, Nat.zero_le _⟩) hS (fun H locs hz6 hP hD hT hS => ?_)
          refine lv_istore (lv' := [(6, .int z6), (0, .ref (ad y2_0)), (1, .ref (q.2.1 y2_1)), (2, .int y2_2), (3, .long y2_3), (5, .int y2_5)]) hx hb dX7_among_32 hl (by decide) rfl (fun ls hl => ?_)
          refine lv_iload hx hb dX7_among_34 (lv_at hl 0 rfl) ?_
          refine lv_bipush (v := 32) hx hb dX7_among_36 rfl ?_
          refine lv_icmp_eq (tgt := 58) hx hb dX7_among_38 rfl (fun c7 => ?_) (fun c7 => ?_)
          · replace h := ite_t c7 h
            refine lv_lload_n hx hb dX7_among_58 rfl (lv_at hl 4 rfl) ?_
            refine lv_aload_n hx hb dX7_among_59 rfl (lv_at hl 1 rfl) ?_
            refine r_get (T := TX7) (v := .long (gL M y2_0 6)) hx hb hts in7 hown hK hP ky2_0 (by decide) rfl 6 (by decide) (hts (.fieldLink RX7 37 "StoneWalk$Tape" "value" "J") (List.mem_of_getElem? (i := 4) (by decide +kernel))) rfl (t := 1) rfl rfl dX7_among_60 ?_
            refine W.lcmp hx hb dX7_among_63 ?_
            refine lv_if_ne (tgt := 69) hx hb dX7_among_64 rfl (fun c8 => ?_) (fun c8 => ?_)
            · replace h := ite_f c8 h
              refine lv_iinc (v := y2_2 + 1) (lv' := [(2, .int (y2_2 + 1)), (6, .int z6), (0, .ref (ad y2_0)), (1, .ref (q.2.1 y2_1)), (3, .long y2_3), (5, .int y2_5)]) hx hb dX7_among_69 hl (k := 3) rfl rfl (by decide) rfl (fun ls hl => ?_)
              refine lv_lconst (v := 0) hx hb dX7_among_72 rfl ?_
              refine lv_lstore_n (lv' := [(3, .long 0), (2, .int (y2_2 + 1)), (6, .int z6), (0, .ref (ad y2_0)), (1, .ref (q.2.1 y2_1)), (5, .int y2_5)]) hx hb dX7_among_73 rfl hl (by decide) rfl (fun ls hl => ?_)
              refine lv_iinc (v := y2_5 + 1) (lv' := [(5, .int (y2_5 + 1)), (3, .long 0), (2, .int (y2_2 + 1)), (6, .int z6), (0, .ref (ad y2_0)), (1, .ref (q.2.1 y2_1))]) hx hb dX7_among_74 hl (k := 5) rfl rfl (by decide) rfl (fun ls hl => ?_)
              refine lv_goto (tgt := 17) hx hb dX7_among_77 rfl ?_
              exact ih2 y2_0 y2_1 (y2_2 + 1) 0 (y2_5 + 1) ky2_0 ky2_1 _ _ h hP hD hT hS ls (lv_sub hl [4, 5, 2, 1, 0] rfl)
            · replace h := ite_t c8 h
              refine lv_iload_n hx hb dX7_among_67 rfl (lv_at hl 3 rfl) ?_
              exact r_iret hx hb hr hlocks hP hK hD hT hG hS (Option.some.inj h) rfl dX7_among_68
          · replace h := ite_f c7 h
            refine lv_lload_n hx hb dX7_among_41 rfl (lv_at hl 4 rfl) ?_
            refine lv_ldc2 hx hb hown (hts (.constantLong RX7 58 (32)) (List.mem_of_getElem? (i := 2) (by decide +kernel))) dX7_among_42 ?_
            refine lv_lmul hx hb dX7_among_45 ?_
            refine lv_iload hx hb dX7_among_46 (lv_at hl 0 rfl) ?_
            refine lv_i2l hx hb dX7_among_48 rfl ?_
            refine lv_ladd hx hb dX7_among_49 ?_
            refine lv_ldc2 hx hb hown (hts (.constantLong RX7 60 (96)) (List.mem_of_getElem? (i := 3) (by decide +kernel))) dX7_among_50 ?_
            refine lv_lsub hx hb dX7_among_53 ?_
            refine lv_lstore_n (lv' := [(3, .long (((y2_3 * 32) + z6.toInt64) - 96)), (6, .int z6), (0, .ref (ad y2_0)), (1, .ref (q.2.1 y2_1)), (2, .int y2_2), (5, .int y2_5)]) hx hb dX7_among_54 rfl hl (by decide) rfl (fun ls hl => ?_)
            refine lv_goto (tgt := 74) hx hb dX7_among_55 rfl ?_
            refine lv_iinc (v := y2_5 + 1) (lv' := [(5, .int (y2_5 + 1)), (3, .long (((y2_3 * 32) + z6.toInt64) - 96)), (6, .int z6), (0, .ref (ad y2_0)), (1, .ref (q.2.1 y2_1)), (2, .int y2_2)]) hx hb dX7_among_74 hl (k := 5) rfl rfl (by decide) rfl (fun ls hl => ?_)
            refine lv_goto (tgt := 17) hx hb dX7_among_77 rfl ?_
            exact ih2 y2_0 y2_1 y2_2 (((y2_3 * 32) + z6.toInt64) - 96) (y2_5 + 1) ky2_0 ky2_1 _ _ h hP hD hT hS ls (lv_sub hl [3, 4, 5, 1, 0] rfl)
    exact L2 FU a0 i1 0 0 0 k0 k1 _ _ h hP hD hT hS ls (lv_sub hl [3, 4, 2, 1, 0] rfl)
  · replace h := ite_f c1 h
    refine lv_iconst (v := (-1)) hx hb dX7_among_8 rfl ?_
    exact r_iret hx hb hr hlocks hP hK hD hT hG hS (Option.some.inj h) rfl dX7_among_9
set_option maxHeartbeats 4000000 in
set_option maxRecDepth 100000 in
theorem c_X7_isWord {l : Launch} {D : va_G} {ad : Nat → Nat} {cy : Nat → ClassId} {A : Nat → Prop} {g : CG} {q : SE} (M : MM) (a0 : Nat) (k0 : ok g a0 7 0) {Z : Int32} (h : f_X7_isWord M a0 = some Z) : Met l yX7_isWord wsX7_isWord ({ frames := 0, cells := 0, slots := 0, locals := 0 }) (va_Pc [.ref (ad a0)] (Wd D ad cy A g q M)) (va_Qi (fun r u => r = Z ∧ u = M ∧ zb r) (Wd D ad cy A g q) A) 0 0 A := by
  refine Met.ofW (cc := cX7_isWord) (maxL := 1) (ret := (some .boolean)) (by decide) rfl ?_
  intro p e s m args below meth c s₁ B hml hv
  obtain ⟨rfl, hP, hK, hD, hT, hG⟩ := hv
  have hx := B.exec
  have hb := B.bytes
  have hr := B.returns
  have hts := atoms_spec (ws := wsX7_isWord) B.pre
  have hown : s.vm.findClass RX7 = some m.cls := findClass_of_methodNamed B.named
  have hlocks := B.notSynchronized
  have in7 : ∀ w ∈ u_ws RX7 TX7 7, w ∈ wsX7_isWord := fun w h => List.mem_cons_of_mem _ (List.mem_append_right _ h)
  have hS : va_S A s.heap s.heap [] := va_S.rf
  have hl := lv_entry ([.ref (ad a0)]) (n := 1) (Nat.le_of_ble_eq_true rfl)
  rw [lg_entry_eq]
  generalize (lg_sl ([.ref (ad a0)]) ++ List.replicate (1 - (lg_sl ([.ref (ad a0)])).length) Slot.unset).toArray = ls at hl ⊢
  have hl : lv_has ls 1 [(0, .ref (ad a0))] := hl
  unfold f_X7_isWord at h
  refine lv_aload_n hx hb dX7_isWord_0 rfl (lv_at hl 0 rfl) ?_
  refine r_get (T := TX7) (v := .int (gI M a0 4)) hx hb hts in7 hown hK hP k0 (by decide) rfl 4 (by decide) (hts (.fieldLink RX7 45 "StoneWalk$Tape" "type" "I") (List.mem_of_getElem? (i := 1) (by decide +kernel))) rfl (t := 0) rfl rfl dX7_isWord_1 ?_
  refine lv_iconst (v := 1) hx hb dX7_isWord_4 rfl ?_
  refine lv_icmp_ne (tgt := 12) hx hb dX7_isWord_5 rfl (fun c1 => ?_) (fun c1 => ?_)
  · replace h := ite_f c1 h
    refine lv_iconst (v := 0) hx hb dX7_isWord_12 rfl ?_
    exact r_zret hx hb hr hlocks hP hK hD hT hG hS zb_0 (Option.some.inj h) rfl dX7_isWord_13
  · replace h := ite_t c1 h
    refine lv_iconst (v := 1) hx hb dX7_isWord_8 rfl ?_
    refine lv_goto (tgt := 13) hx hb dX7_isWord_9 rfl ?_
    exact r_zret hx hb hr hlocks hP hK hD hT hG hS zb_1 (Option.some.inj h) rfl dX7_isWord_13
set_option maxHeartbeats 4000000 in
set_option maxRecDepth 100000 in
theorem c_X3_add {l : Launch} {D : va_G} {ad : Nat → Nat} {cy : Nat → ClassId} {A : Nat → Prop} {g : CG} {q : SE} (M : MM) (a0 : Nat) (x1 : Int32) (k0 : ok g a0 3 0) {Z : MM} (h : f_X3_add M a0 x1 = some Z) : Met l yX3_add wsX3_add ({ frames := 0, cells := 0, slots := 0, locals := 0 }) (va_Pc [.ref (ad a0), .int x1] (Wd D ad cy A g q M)) (va_Qv (fun u => u = Z) (Wd D ad cy A g q) A) 0 0 A := by
  refine Met.ofW (cc := cX3_add) (maxL := 2) (ret := none) (by decide) rfl ?_
  intro p e s m args below meth c s₁ B hml hv
  obtain ⟨rfl, hP, hK, hD, hT, hG⟩ := hv
  have hx := B.exec
  have hb := B.bytes
  have hr := B.returns
  have hts := atoms_spec (ws := wsX3_add) B.pre
  have hown : s.vm.findClass RX3 = some m.cls := findClass_of_methodNamed B.named
  have hlocks := B.notSynchronized
  have in3 : ∀ w ∈ u_ws RX3 TX3 3, w ∈ wsX3_add := fun w h => List.mem_cons_of_mem _ (List.mem_append_right _ h)
  have hS : va_S A s.heap s.heap [] := va_S.rf
  have hl := lv_entry ([.ref (ad a0), .int x1]) (n := 2) (Nat.le_of_ble_eq_true rfl)
  rw [lg_entry_eq]
  generalize (lg_sl ([.ref (ad a0), .int x1]) ++ List.replicate (2 - (lg_sl ([.ref (ad a0), .int x1])).length) Slot.unset).toArray = ls at hl ⊢
  have hl : lv_has ls 2 [(0, .ref (ad a0)), (1, .int x1)] := hl
  unfold f_X3_add at h
  refine lv_aload_n hx hb dX3_add_0 rfl (lv_at hl 0 rfl) ?_
  refine r_get (T := TX3) (v := .int (gI M a0 1)) hx hb hts in3 hown hK hP k0 (by decide) rfl 1 (by decide) (hts (.fieldLink RX3 15 "StoneWalk$Road" "held" "I") (List.mem_of_getElem? (i := 1) (by decide +kernel))) rfl (t := 0) rfl rfl dX3_add_1 ?_
  refine lv_aload_n hx hb dX3_add_4 rfl (lv_at hl 0 rfl) ?_
  rcases hN1 : gR M a0 2 with _ | b1
  · exact absurd (oc_n hN1 h) (by simp)
  replace h := oc_s hN1 h
  have kb1 := hT.f k0 (k := 2) (t := 15) (n := 6) rfl hN1
  refine r_get (T := TX3) (v := .ref (ad b1)) hx hb hts in3 hown hK hP k0 (by decide) rfl 2 (by decide) (hts (.fieldLink RX3 9 "StoneWalk$Road" "slopes" "[I") (List.mem_of_getElem? (i := 2) (by decide +kernel))) rfl (t := 2) rfl (by show va_rf _ = _; rw [hN1]; rfl) dX3_add_5 ?_
  refine r_alen (t0 := 1) (v := 6) hx hb hK hP kb1 (by decide) rfl rfl dX3_add_8 ?_
  refine lv_icmp_ge (tgt := 32) hx hb dX3_add_9 rfl (fun c2 => ?_) (fun c2 => ?_)
  · replace h := ite_t c2 h
    exact r_vret hx hb hr hlocks hP hK hD hT hG hS (Option.some.inj h) dX3_add_32
  · replace h := ite_f c2 h
    refine lv_aload_n hx hb dX3_add_12 rfl (lv_at hl 0 rfl) ?_
    rcases hN3 : gR M a0 2 with _ | b3
    · exact absurd (oc_n hN3 h) (by simp)
    replace h := oc_s hN3 h
    have kb3 := hT.f k0 (k := 2) (t := 15) (n := 6) rfl hN3
    refine r_get (T := TX3) (v := .ref (ad b3)) hx hb hts in3 hown hK hP k0 (by decide) rfl 2 (by decide) (hts (.fieldLink RX3 9 "StoneWalk$Road" "slopes" "[I") (List.mem_of_getElem? (i := 2) (by decide +kernel))) rfl (t := 2) rfl (by show va_rf _ = _; rw [hN3]; rfl) dX3_add_13 ?_
    refine lv_aload_n hx hb dX3_add_16 rfl (lv_at hl 0 rfl) ?_
    refine r_get (T := TX3) (v := .int (gI M a0 1)) hx hb hts in3 hown hK hP k0 (by decide) rfl 1 (by decide) (hts (.fieldLink RX3 15 "StoneWalk$Road" "held" "I") (List.mem_of_getElem? (i := 1) (by decide +kernel))) rfl (t := 0) rfl rfl dX3_add_17 ?_
    refine lv_iload_n hx hb dX3_add_20 rfl (lv_at hl 1 rfl) ?_
    obtain ⟨hn4, h⟩ := chk_some h
    refine r_iast hx hb hK hP hD hT hS kb3 hn4 dX3_add_21 (fun H locs hP hD hT hS => ?_)
    refine lv_aload_n hx hb dX3_add_22 rfl (lv_at hl 0 rfl) ?_
    refine lv_dup hx hb dX3_add_23 rfl ?_
    refine r_get (T := TX3) (v := .int (gI (pI M b3 (ix (gI M a0 1)) x1) a0 1)) hx hb hts in3 hown hK hP k0 (by decide) rfl 1 (by decide) (hts (.fieldLink RX3 15 "StoneWalk$Road" "held" "I") (List.mem_of_getElem? (i := 1) (by decide +kernel))) rfl (t := 0) rfl rfl dX3_add_24 ?_
    refine lv_iconst (v := 1) hx hb dX3_add_27 rfl ?_
    refine lv_iadd hx hb dX3_add_28 ?_
    refine r_putI (T := TX3) (ty := .int) (v := (gI (pI M b3 (ix (gI M a0 1)) x1) a0 1) + 1) hx hb hts in3 tyX3 tyX3_ok nmX3 hown hK hP hD hT hS k0 (by decide) rfl 1 (by decide) (hts (.fieldLink RX3 15 "StoneWalk$Road" "held" "I") (List.mem_of_getElem? (i := 1) (by decide +kernel))) rfl rfl (tyX3_ok 1 (by decide)) rfl rfl rfl dX3_add_29 (fun H locs hP hD hT hS => ?_)
    exact r_vret hx hb hr hlocks hP hK hD hT hG hS (Option.some.inj h) dX3_add_32
set_option maxHeartbeats 4000000 in
set_option maxRecDepth 100000 in
theorem c_X7_isSign {l : Launch} {D : va_G} {ad : Nat → Nat} {cy : Nat → ClassId} {A : Nat → Prop} {g : CG} {q : SE} (M : MM) (a0 : Nat) (x1 : Int32) (k0 : ok g a0 7 0) {Z : Int32} (h : f_X7_isSign M a0 x1 = some Z) : Met l yX7_isSign wsX7_isSign ({ frames := 0, cells := 0, slots := 0, locals := 0 }) (va_Pc [.ref (ad a0), .int x1] (Wd D ad cy A g q M)) (va_Qi (fun r u => r = Z ∧ u = M ∧ zb r) (Wd D ad cy A g q) A) 0 0 A := by
  refine Met.ofW (cc := cX7_isSign) (maxL := 2) (ret := (some .boolean)) (by decide) rfl ?_
  intro p e s m args below meth c s₁ B hml hv
  obtain ⟨rfl, hP, hK, hD, hT, hG⟩ := hv
  have hx := B.exec
  have hb := B.bytes
  have hr := B.returns
  have hts := atoms_spec (ws := wsX7_isSign) B.pre
  have hown : s.vm.findClass RX7 = some m.cls := findClass_of_methodNamed B.named
  have hlocks := B.notSynchronized
  have in7 : ∀ w ∈ u_ws RX7 TX7 7, w ∈ wsX7_isSign := fun w h => List.mem_cons_of_mem _ (List.mem_append_right _ h)
  have hS : va_S A s.heap s.heap [] := va_S.rf
  have hl := lv_entry ([.ref (ad a0), .int x1]) (n := 2) (Nat.le_of_ble_eq_true rfl)
  rw [lg_entry_eq]
  generalize (lg_sl ([.ref (ad a0), .int x1]) ++ List.replicate (2 - (lg_sl ([.ref (ad a0), .int x1])).length) Slot.unset).toArray = ls at hl ⊢
  have hl : lv_has ls 2 [(0, .ref (ad a0)), (1, .int x1)] := hl
  unfold f_X7_isSign at h
  refine lv_aload_n hx hb dX7_isSign_0 rfl (lv_at hl 0 rfl) ?_
  refine r_get (T := TX7) (v := .int (gI M a0 4)) hx hb hts in7 hown hK hP k0 (by decide) rfl 4 (by decide) (hts (.fieldLink RX7 45 "StoneWalk$Tape" "type" "I") (List.mem_of_getElem? (i := 1) (by decide +kernel))) rfl (t := 0) rfl rfl dX7_isSign_1 ?_
  refine lv_iconst (v := 3) hx hb dX7_isSign_4 rfl ?_
  refine lv_icmp_ne (tgt := 22) hx hb dX7_isSign_5 rfl (fun c1 => ?_) (fun c1 => ?_)
  · replace h := ite_f c1 h
    refine lv_iconst (v := 0) hx hb dX7_isSign_22 rfl ?_
    exact r_zret hx hb hr hlocks hP hK hD hT hG hS zb_0 (Option.some.inj h) rfl dX7_isSign_23
  · replace h := ite_t c1 h
    refine lv_aload_n hx hb dX7_isSign_8 rfl (lv_at hl 0 rfl) ?_
    refine r_get (T := TX7) (v := .long (gL M a0 6)) hx hb hts in7 hown hK hP k0 (by decide) rfl 6 (by decide) (hts (.fieldLink RX7 37 "StoneWalk$Tape" "value" "J") (List.mem_of_getElem? (i := 2) (by decide +kernel))) rfl (t := 1) rfl rfl dX7_isSign_9 ?_
    refine lv_iload_n hx hb dX7_isSign_12 rfl (lv_at hl 1 rfl) ?_
    refine lv_i2l hx hb dX7_isSign_13 rfl ?_
    refine W.lcmp hx hb dX7_isSign_14 ?_
    refine lv_if_ne (tgt := 22) hx hb dX7_isSign_15 rfl (fun c2 => ?_) (fun c2 => ?_)
    · replace h := ite_f c2 h
      refine lv_iconst (v := 0) hx hb dX7_isSign_22 rfl ?_
      exact r_zret hx hb hr hlocks hP hK hD hT hG hS zb_0 (Option.some.inj h) rfl dX7_isSign_23
    · replace h := ite_t c2 h
      refine lv_iconst (v := 1) hx hb dX7_isSign_18 rfl ?_
      refine lv_goto (tgt := 23) hx hb dX7_isSign_19 rfl ?_
      exact r_zret hx hb hr hlocks hP hK hD hT hG hS zb_1 (Option.some.inj h) rfl dX7_isSign_23
set_option maxHeartbeats 4000000 in
set_option maxRecDepth 100000 in
theorem c_X8_add {l : Launch} {D : va_G} {ad : Nat → Nat} {cy : Nat → ClassId} {A : Nat → Prop} {g : CG} {q : SE} (M : MM) (a0 : Nat) (x1 : Int32) (k0 : ok g a0 8 0) {Z : MM} (h : f_X8_add M a0 x1 = some Z) : Met l yX8_add wsX8_add ({ frames := 0, cells := 0, slots := 0, locals := 0 }) (va_Pc [.ref (ad a0), .int x1] (Wd D ad cy A g q M)) (va_Qv (fun u => u = Z) (Wd D ad cy A g q) A) 0 0 A := by
  refine Met.ofW (cc := cX8_add) (maxL := 2) (ret := none) (by decide) rfl ?_
  intro p e s m args below meth c s₁ B hml hv
  obtain ⟨rfl, hP, hK, hD, hT, hG⟩ := hv
  have hx := B.exec
  have hb := B.bytes
  have hr := B.returns
  have hts := atoms_spec (ws := wsX8_add) B.pre
  have hown : s.vm.findClass RX8 = some m.cls := findClass_of_methodNamed B.named
  have hlocks := B.notSynchronized
  have in8 : ∀ w ∈ u_ws RX8 TX8 2, w ∈ wsX8_add := fun w h => List.mem_cons_of_mem _ (List.mem_append_right _ h)
  have hS : va_S A s.heap s.heap [] := va_S.rf
  have hl := lv_entry ([.ref (ad a0), .int x1]) (n := 2) (Nat.le_of_ble_eq_true rfl)
  rw [lg_entry_eq]
  generalize (lg_sl ([.ref (ad a0), .int x1]) ++ List.replicate (2 - (lg_sl ([.ref (ad a0), .int x1])).length) Slot.unset).toArray = ls at hl ⊢
  have hl : lv_has ls 2 [(0, .ref (ad a0)), (1, .int x1)] := hl
  unfold f_X8_add at h
  refine lv_iload_n hx hb dX8_add_0 rfl (lv_at hl 1 rfl) ?_
  refine lv_if_lt (tgt := 16) hx hb dX8_add_1 rfl (fun c1 => ?_) (fun c1 => ?_)
  · replace h := ite_t c1 h
    exact r_vret hx hb hr hlocks hP hK hD hT hG hS (Option.some.inj h) dX8_add_16
  · replace h := ite_f c1 h
    refine lv_aload_n hx hb dX8_add_4 rfl (lv_at hl 0 rfl) ?_
    refine lv_dup hx hb dX8_add_5 rfl ?_
    refine r_get (T := TX8) (v := .int (gI M a0 1)) hx hb hts in8 hown hK hP k0 (by decide) rfl 1 (by decide) (hts (.fieldLink RX8 7 "StoneWalk$Teller" "ways" "I") (List.mem_of_getElem? (i := 1) (by decide +kernel))) rfl (t := 0) rfl rfl dX8_add_6 ?_
    refine lv_iconst (v := 1) hx hb dX8_add_9 rfl ?_
    refine lv_iload_n hx hb dX8_add_10 rfl (lv_at hl 1 rfl) ?_
    refine lv_ishl hx hb dX8_add_11 ?_
    refine lv_ior hx hb dX8_add_12 ?_
    refine r_putI (T := TX8) (ty := .int) (v := (gI M a0 1) ||| (1 <<< (x1 &&& 31))) hx hb hts in8 tyX8 tyX8_ok nmX8 hown hK hP hD hT hS k0 (by decide) rfl 1 (by decide) (hts (.fieldLink RX8 7 "StoneWalk$Teller" "ways" "I") (List.mem_of_getElem? (i := 1) (by decide +kernel))) rfl rfl (tyX8_ok 1 (by decide)) rfl rfl rfl dX8_add_13 (fun H locs hP hD hT hS => ?_)
    exact r_vret hx hb hr hlocks hP hK hD hT hG hS (Option.some.inj h) dX8_add_16
set_option maxHeartbeats 4000000 in
set_option maxRecDepth 100000 in
theorem c_X4_clear {l : Launch} {D : va_G} {ad : Nat → Nat} {cy : Nat → ClassId} {A : Nat → Prop} {g : CG} {q : SE} (M : MM) (a0 : Nat) (k0 : ok g a0 4 0) {Z : MM} (h : f_X4_clear M a0 = some Z) : Met l yX4_clear wsX4_clear ({ frames := 0, cells := 0, slots := 0, locals := 0 }) (va_Pc [.ref (ad a0)] (Wd D ad cy A g q M)) (va_Qv (fun u => u = Z) (Wd D ad cy A g q) A) 0 0 A := by
  refine Met.ofW (cc := cX4_clear) (maxL := 1) (ret := none) (by decide) rfl ?_
  intro p e s m args below meth c s₁ B hml hv
  obtain ⟨rfl, hP, hK, hD, hT, hG⟩ := hv
  have hx := B.exec
  have hb := B.bytes
  have hr := B.returns
  have hts := atoms_spec (ws := wsX4_clear) B.pre
  have hown : s.vm.findClass RX4 = some m.cls := findClass_of_methodNamed B.named
  have hlocks := B.notSynchronized
  have in4 : ∀ w ∈ u_ws RX4 TX4 4, w ∈ wsX4_clear := fun w h => List.mem_cons_of_mem _ (List.mem_append_right _ h)
  have hS : va_S A s.heap s.heap [] := va_S.rf
  have hl := lv_entry ([.ref (ad a0)]) (n := 1) (Nat.le_of_ble_eq_true rfl)
  rw [lg_entry_eq]
  generalize (lg_sl ([.ref (ad a0)]) ++ List.replicate (1 - (lg_sl ([.ref (ad a0)])).length) Slot.unset).toArray = ls at hl ⊢
  have hl : lv_has ls 1 [(0, .ref (ad a0))] := hl
  unfold f_X4_clear at h
  refine lv_aload_n hx hb dX4_clear_0 rfl (lv_at hl 0 rfl) ?_
  refine lv_iconst (v := 0) hx hb dX4_clear_1 rfl ?_
  refine r_putI (T := TX4) (ty := .int) (v := 0) hx hb hts in4 tyX4 tyX4_ok nmX4 hown hK hP hD hT hS k0 (by decide) rfl 3 (by decide) (hts (.fieldLink RX4 21 "StoneWalk$Sights" "held" "I") (List.mem_of_getElem? (i := 1) (by decide +kernel))) rfl rfl (tyX4_ok 3 (by decide)) rfl rfl rfl dX4_clear_2 (fun H locs hP hD hT hS => ?_)
  exact r_vret hx hb hr hlocks hP hK hD hT hG hS (Option.some.inj h) dX4_clear_5
set_option maxHeartbeats 4000000 in
set_option maxRecDepth 100000 in
theorem c_X4_add {l : Launch} {D : va_G} {ad : Nat → Nat} {cy : Nat → ClassId} {A : Nat → Prop} {g : CG} {q : SE} (M : MM) (a0 : Nat) (x1 : Int32) (x2 : Int32) (x3 : Int32) (k0 : ok g a0 4 0) {Z : (Int32 × MM)} (h : f_X4_add M a0 x1 x2 x3 = some Z) : Met l yX4_add wsX4_add ({ frames := 0, cells := 0, slots := 0, locals := 0 }) (va_Pc [.ref (ad a0), .int x1, .int x2, .int x3] (Wd D ad cy A g q M)) (va_Qi (fun r u => r = Z.1 ∧ u = Z.2 ∧ zb r) (Wd D ad cy A g q) A) 0 0 A := by
  refine Met.ofW (cc := cX4_add) (maxL := 4) (ret := (some .boolean)) (by decide) rfl ?_
  intro p e s m args below meth c s₁ B hml hv
  obtain ⟨rfl, hP, hK, hD, hT, hG⟩ := hv
  have hx := B.exec
  have hb := B.bytes
  have hr := B.returns
  have hts := atoms_spec (ws := wsX4_add) B.pre
  have hown : s.vm.findClass RX4 = some m.cls := findClass_of_methodNamed B.named
  have hlocks := B.notSynchronized
  have in4 : ∀ w ∈ u_ws RX4 TX4 4, w ∈ wsX4_add := fun w h => List.mem_cons_of_mem _ (List.mem_append_right _ h)
  have hS : va_S A s.heap s.heap [] := va_S.rf
  have hl := lv_entry ([.ref (ad a0), .int x1, .int x2, .int x3]) (n := 4) (Nat.le_of_ble_eq_true rfl)
  rw [lg_entry_eq]
  generalize (lg_sl ([.ref (ad a0), .int x1, .int x2, .int x3]) ++ List.replicate (4 - (lg_sl ([.ref (ad a0), .int x1, .int x2, .int x3])).length) Slot.unset).toArray = ls at hl ⊢
  have hl : lv_has ls 4 [(0, .ref (ad a0)), (1, .int x1), (2, .int x2), (3, .int x3)] := hl
  unfold f_X4_add at h
  refine lv_aload_n hx hb dX4_add_0 rfl (lv_at hl 0 rfl) ?_
  refine r_get (T := TX4) (v := .int (gI M a0 3)) hx hb hts in4 hown hK hP k0 (by decide) rfl 3 (by decide) (hts (.fieldLink RX4 21 "StoneWalk$Sights" "held" "I") (List.mem_of_getElem? (i := 1) (by decide +kernel))) rfl (t := 0) rfl rfl dX4_add_1 ?_
  refine lv_aload_n hx hb dX4_add_4 rfl (lv_at hl 0 rfl) ?_
  rcases hN1 : gR M a0 0 with _ | b1
  · exact absurd (oc_n hN1 h) (by simp)
  replace h := oc_s hN1 h
  have kb1 := hT.f k0 (k := 0) (t := 15) (n := 12) rfl hN1
  refine r_get (T := TX4) (v := .ref (ad b1)) hx hb hts in4 hown hK hP k0 (by decide) rfl 0 (by decide) (hts (.fieldLink RX4 9 "StoneWalk$Sights" "years" "[I") (List.mem_of_getElem? (i := 2) (by decide +kernel))) rfl (t := 2) rfl (by show va_rf _ = _; rw [hN1]; rfl) dX4_add_5 ?_
  refine r_alen (t0 := 1) (v := 12) hx hb hK hP kb1 (by decide) rfl rfl dX4_add_8 ?_
  refine lv_icmp_lt (tgt := 14) hx hb dX4_add_9 rfl (fun c2 => ?_) (fun c2 => ?_)
  · replace h := ite_t c2 h
    refine lv_aload_n hx hb dX4_add_14 rfl (lv_at hl 0 rfl) ?_
    rcases hN3 : gR M a0 0 with _ | b3
    · exact absurd (oc_n hN3 h) (by simp)
    replace h := oc_s hN3 h
    have kb3 := hT.f k0 (k := 0) (t := 15) (n := 12) rfl hN3
    refine r_get (T := TX4) (v := .ref (ad b3)) hx hb hts in4 hown hK hP k0 (by decide) rfl 0 (by decide) (hts (.fieldLink RX4 9 "StoneWalk$Sights" "years" "[I") (List.mem_of_getElem? (i := 2) (by decide +kernel))) rfl (t := 2) rfl (by show va_rf _ = _; rw [hN3]; rfl) dX4_add_15 ?_
    refine lv_aload_n hx hb dX4_add_18 rfl (lv_at hl 0 rfl) ?_
    refine r_get (T := TX4) (v := .int (gI M a0 3)) hx hb hts in4 hown hK hP k0 (by decide) rfl 3 (by decide) (hts (.fieldLink RX4 21 "StoneWalk$Sights" "held" "I") (List.mem_of_getElem? (i := 1) (by decide +kernel))) rfl (t := 0) rfl rfl dX4_add_19 ?_
    refine lv_iload_n hx hb dX4_add_22 rfl (lv_at hl 1 rfl) ?_
    obtain ⟨hn4, h⟩ := chk_some h
    refine r_iast hx hb hK hP hD hT hS kb3 hn4 dX4_add_23 (fun H locs hP hD hT hS => ?_)
    refine lv_aload_n hx hb dX4_add_24 rfl (lv_at hl 0 rfl) ?_
    rcases hN5 : gR (pI M b3 (ix (gI M a0 3)) x1) a0 1 with _ | b5
    · exact absurd (oc_n hN5 h) (by simp)
    replace h := oc_s hN5 h
    have kb5 := hT.f k0 (k := 1) (t := 15) (n := 12) rfl hN5
    refine r_get (T := TX4) (v := .ref (ad b5)) hx hb hts in4 hown hK hP k0 (by decide) rfl 1 (by decide) (hts (.fieldLink RX4 15 "StoneWalk$Sights" "counts" "[I") (List.mem_of_getElem? (i := 3) (by decide +kernel))) rfl (t := 2) rfl (by show va_rf _ = _; rw [hN5]; rfl) dX4_add_25 ?_
    refine lv_aload_n hx hb dX4_add_28 rfl (lv_at hl 0 rfl) ?_
    refine r_get (T := TX4) (v := .int (gI (pI M b3 (ix (gI M a0 3)) x1) a0 3)) hx hb hts in4 hown hK hP k0 (by decide) rfl 3 (by decide) (hts (.fieldLink RX4 21 "StoneWalk$Sights" "held" "I") (List.mem_of_getElem? (i := 1) (by decide +kernel))) rfl (t := 0) rfl rfl dX4_add_29 ?_
    refine lv_iload_n hx hb dX4_add_32 rfl (lv_at hl 2 rfl) ?_
    obtain ⟨hn6, h⟩ := chk_some h
    refine r_iast hx hb hK hP hD hT hS kb5 hn6 dX4_add_33 (fun H locs hP hD hT hS => ?_)
    refine lv_aload_n hx hb dX4_add_34 rfl (lv_at hl 0 rfl) ?_
    rcases hN7 : gR (pI (pI M b3 (ix (gI M a0 3)) x1) b5 (ix (gI (pI M b3 (ix (gI M a0 3)) x1) a0 3)) x2) a0 2 with _ | b7
    · exact absurd (oc_n hN7 h) (by simp)
    replace h := oc_s hN7 h
    have kb7 := hT.f k0 (k := 2) (t := 15) (n := 12) rfl hN7
    refine r_get (T := TX4) (v := .ref (ad b7)) hx hb hts in4 hown hK hP k0 (by decide) rfl 2 (by decide) (hts (.fieldLink RX4 18 "StoneWalk$Sights" "offs" "[I") (List.mem_of_getElem? (i := 4) (by decide +kernel))) rfl (t := 2) rfl (by show va_rf _ = _; rw [hN7]; rfl) dX4_add_35 ?_
    refine lv_aload_n hx hb dX4_add_38 rfl (lv_at hl 0 rfl) ?_
    refine r_get (T := TX4) (v := .int (gI (pI (pI M b3 (ix (gI M a0 3)) x1) b5 (ix (gI (pI M b3 (ix (gI M a0 3)) x1) a0 3)) x2) a0 3)) hx hb hts in4 hown hK hP k0 (by decide) rfl 3 (by decide) (hts (.fieldLink RX4 21 "StoneWalk$Sights" "held" "I") (List.mem_of_getElem? (i := 1) (by decide +kernel))) rfl (t := 0) rfl rfl dX4_add_39 ?_
    refine lv_iload_n hx hb dX4_add_42 rfl (lv_at hl 3 rfl) ?_
    obtain ⟨hn8, h⟩ := chk_some h
    refine r_iast hx hb hK hP hD hT hS kb7 hn8 dX4_add_43 (fun H locs hP hD hT hS => ?_)
    refine lv_aload_n hx hb dX4_add_44 rfl (lv_at hl 0 rfl) ?_
    refine lv_dup hx hb dX4_add_45 rfl ?_
    refine r_get (T := TX4) (v := .int (gI (pI (pI (pI M b3 (ix (gI M a0 3)) x1) b5 (ix (gI (pI M b3 (ix (gI M a0 3)) x1) a0 3)) x2) b7 (ix (gI (pI (pI M b3 (ix (gI M a0 3)) x1) b5 (ix (gI (pI M b3 (ix (gI M a0 3)) x1) a0 3)) x2) a0 3)) x3) a0 3)) hx hb hts in4 hown hK hP k0 (by decide) rfl 3 (by decide) (hts (.fieldLink RX4 21 "StoneWalk$Sights" "held" "I") (List.mem_of_getElem? (i := 1) (by decide +kernel))) rfl (t := 0) rfl rfl dX4_add_46 ?_
    refine lv_iconst (v := 1) hx hb dX4_add_49 rfl ?_
    refine lv_iadd hx hb dX4_add_50 ?_
    refine r_putI (T := TX4) (ty := .int) (v := (gI (pI (pI (pI M b3 (ix (gI M a0 3)) x1) b5 (ix (gI (pI M b3 (ix (gI M a0 3)) x1) a0 3)) x2) b7 (ix (gI (pI (pI M b3 (ix (gI M a0 3)) x1) b5 (ix (gI (pI M b3 (ix (gI M a0 3)) x1) a0 3)) x2) a0 3)) x3) a0 3) + 1) hx hb hts in4 tyX4 tyX4_ok nmX4 hown hK hP hD hT hS k0 (by decide) rfl 3 (by decide) (hts (.fieldLink RX4 21 "StoneWalk$Sights" "held" "I") (List.mem_of_getElem? (i := 1) (by decide +kernel))) rfl rfl (tyX4_ok 3 (by decide)) rfl rfl rfl dX4_add_51 (fun H locs hP hD hT hS => ?_)
    refine lv_iconst (v := 1) hx hb dX4_add_54 rfl ?_
    exact r_zret hx hb hr hlocks hP hK hD hT hG hS zb_1 (congrArg Prod.fst (Option.some.inj h)) (congrArg Prod.snd (Option.some.inj h)) dX4_add_55
  · replace h := ite_f c2 h
    refine lv_iconst (v := 0) hx hb dX4_add_12 rfl ?_
    exact r_zret hx hb hr hlocks hP hK hD hT hG hS zb_0 (congrArg Prod.fst (Option.some.inj h)) (congrArg Prod.snd (Option.some.inj h)) dX4_add_13
set_option maxHeartbeats 4000000 in
set_option maxRecDepth 100000 in
theorem c_X4_agrees {l : Launch} {D : va_G} {ad : Nat → Nat} {cy : Nat → ClassId} {A : Nat → Prop} {g : CG} {q : SE} (M : MM) (a0 : Nat) (a1 : Nat) (k0 : ok g a0 4 0) (k1 : ok g a1 6 0) {Z : Int32} (h : f_X4_agrees M a0 a1 = some Z) : Met l yX4_agrees wsX4_agrees ({ frames := 2, cells := 0, slots := 0, locals := 42 }) (va_Pc [.ref (ad a0), .ref (ad a1)] (Wd D ad cy A g q M)) (va_Qi (fun r u => r = Z ∧ u = M ∧ zb r) (Wd D ad cy A g q) A) 0 0 A := by
  refine Met.ofW (cc := cX4_agrees) (maxL := 3) (ret := (some .boolean)) (by decide) rfl ?_
  intro p e s m args below meth c s₁ B hml hv
  obtain ⟨rfl, hP, hK, hD, hT, hG⟩ := hv
  have hx := B.exec
  have hb := B.bytes
  have hr := B.returns
  have hts := atoms_spec (ws := wsX4_agrees) B.pre
  have hown : s.vm.findClass RX4 = some m.cls := findClass_of_methodNamed B.named
  have hlocks := B.notSynchronized
  have in4 : ∀ w ∈ u_ws RX4 TX4 4, w ∈ wsX4_agrees := fun w h => List.mem_cons_of_mem _ (List.mem_append_left _ (List.mem_append_right _ h))
  have hS : va_S A s.heap s.heap [] := va_S.rf
  have hl := lv_entry ([.ref (ad a0), .ref (ad a1)]) (n := 3) (Nat.le_of_ble_eq_true rfl)
  rw [lg_entry_eq]
  generalize (lg_sl ([.ref (ad a0), .ref (ad a1)]) ++ List.replicate (3 - (lg_sl ([.ref (ad a0), .ref (ad a1)])).length) Slot.unset).toArray = ls at hl ⊢
  have hl : lv_has ls 3 [(0, .ref (ad a0)), (1, .ref (ad a1))] := hl
  unfold f_X4_agrees at h
  refine lv_iconst (v := 0) hx hb dX4_agrees_0 rfl ?_
  refine lv_istore_n (lv' := [(2, .int 0), (0, .ref (ad a0)), (1, .ref (ad a1))]) hx hb dX4_agrees_1 rfl hl (by decide) rfl (fun ls hl => ?_)
  have L1 : ∀ n1 : Nat, ∀ (y1_0 : Nat) (y1_1 : Nat) (y1_2 : Int32) (ky1_0 : ok g y1_0 4 0) (ky1_1 : ok g y1_1 6 0) (H : Heap) (locs : List Loc), f_X4_agrees_L2 n1 M y1_0 y1_1 y1_2 = some Z → va_P D vwCl (wd ad cy g M) H → va_D A (wd ad cy g M) → WT g M → va_S A s.heap H locs → ∀ (ls : Array Slot), lv_has ls 3 [(0, .ref (ad y1_0)), (1, .ref (ad y1_1)), (2, .int y1_2)] → W p l e ((headSpec wsX4_agrees ({ frames := 2, cells := 0, slots := 0, locals := 42 })).room) s m (([.ref (ad a0), .ref (ad a1)] : List Value).toArray) below meth c H locs 0 0 (MQ below (va_Qi (fun r u => r = Z ∧ u = M ∧ zb r) (Wd D ad cy A g q) A) ([.ref (ad a0), .ref (ad a1)]).toArray s 0 0 A) (F0 m 2 ls []) := by
    intro n1
    induction n1 with
    | zero => intro y1_0 y1_1 y1_2 ky1_0 ky1_1 H locs h; exact absurd h (by simp [f_X4_agrees_L2])
    | succ n1 ih1 =>
      intro y1_0 y1_1 y1_2 ky1_0 ky1_1 H locs h hP hD hT hS ls hl
      rw [f_X4_agrees_L2] at h
      refine lv_iload_n hx hb dX4_agrees_2 rfl (lv_at hl 2 rfl) ?_
      refine lv_aload_n hx hb dX4_agrees_3 rfl (lv_at hl 0 rfl) ?_
      refine r_get (T := TX4) (v := .int (gI M y1_0 3)) hx hb hts in4 hown hK hP ky1_0 (by decide) rfl 3 (by decide) (hts (.fieldLink RX4 21 "StoneWalk$Sights" "held" "I") (List.mem_of_getElem? (i := 1) (by decide +kernel))) rfl (t := 0) rfl rfl dX4_agrees_4 ?_
      refine lv_icmp_ge (tgt := 53) hx hb dX4_agrees_7 rfl (fun c2 => ?_) (fun c2 => ?_)
      · replace h := ite_t c2 h
        refine lv_iconst (v := 1) hx hb dX4_agrees_53 rfl ?_
        exact r_zret hx hb hr hlocks hP hK hD hT hG hS zb_1 (Option.some.inj h) rfl dX4_agrees_54
      · replace h := ite_f c2 h
        refine lv_aload_n hx hb dX4_agrees_10 rfl (lv_at hl 1 rfl) ?_
        refine lv_aload_n hx hb dX4_agrees_11 rfl (lv_at hl 0 rfl) ?_
        rcases hN3 : gR M y1_0 0 with _ | b3
        · exact absurd (oc_n hN3 h) (by simp)
        replace h := oc_s hN3 h
        have kb3 := hT.f ky1_0 (k := 0) (t := 15) (n := 12) rfl hN3
        refine r_get (T := TX4) (v := .ref (ad b3)) hx hb hts in4 hown hK hP ky1_0 (by decide) rfl 0 (by decide) (hts (.fieldLink RX4 9 "StoneWalk$Sights" "years" "[I") (List.mem_of_getElem? (i := 2) (by decide +kernel))) rfl (t := 2) rfl (by show va_rf _ = _; rw [hN3]; rfl) dX4_agrees_12 ?_
        refine lv_iload_n hx hb dX4_agrees_15 rfl (lv_at hl 2 rfl) ?_
        obtain ⟨z4, h4, h⟩ := ob_some h
        refine k_i (va_runSN (As := [.ref (ad b3), .int y1_2]) (rest := [.ref (ad y1_1)]) ⟨hx, hb, hml, hown, hts⟩ (c_X11_entry (l := l) M b3 12 y1_2 kb3 h4) ⟨va_cnB 2 hts gX4_agrees_X11_entry_n39 rfl rfl rfl (hG.2.1 _ (List.mem_of_getElem? (i := 14) rfl)) (hts (.initialized RX11) (List.mem_of_getElem? (i := 10) (by decide +kernel))) hdS_X11_entry ⟨Nat.le_of_ble_eq_true rfl, Nat.le_of_ble_eq_true rfl⟩, (hts (.static yX11_entry) (List.mem_of_getElem? (i := 9) (by decide +kernel))), trivial⟩ (pS hP hK hD hT hG hS) rfl rfl hl.1 rfl (lv_room (Nat.le_of_ble_eq_true rfl)) dX4_agrees_16 ⟨Nat.zero_le _, Nat.zero_le _⟩) hS (fun H locs hP hD hT hS => ?_)
        obtain ⟨z5, h5, h⟩ := ob_some h
        refine k_i (va_runV (As := [.int z4]) (rest := []) ⟨hx, hb, hml, hown, hts⟩ (c_X6_treesIn (l := l) M y1_1 z4 ky1_1 h5) (cwV 1 hts gX4_agrees_X6_treesIn rfl rfl rfl hdV_X6_treesIn ⟨Nat.le_of_ble_eq_true rfl, Nat.le_of_ble_eq_true rfl⟩) (pV (T := TX6) hP hK hD hT hG hS ky1_1 (by decide) rfl) rfl rfl hl.1 rfl (lv_room (Nat.le_of_ble_eq_true rfl)) dX4_agrees_19 ⟨Nat.zero_le _, Nat.zero_le _⟩) hS (fun H locs hP hD hT hS => ?_)
        refine lv_aload_n hx hb dX4_agrees_22 rfl (lv_at hl 0 rfl) ?_
        rcases hN6 : gR M y1_0 1 with _ | b6
        · exact absurd (oc_n hN6 h) (by simp)
        replace h := oc_s hN6 h
        have kb6 := hT.f ky1_0 (k := 1) (t := 15) (n := 12) rfl hN6
        refine r_get (T := TX4) (v := .ref (ad b6)) hx hb hts in4 hown hK hP ky1_0 (by decide) rfl 1 (by decide) (hts (.fieldLink RX4 15 "StoneWalk$Sights" "counts" "[I") (List.mem_of_getElem? (i := 3) (by decide +kernel))) rfl (t := 2) rfl (by show va_rf _ = _; rw [hN6]; rfl) dX4_agrees_23 ?_
        refine lv_iload_n hx hb dX4_agrees_26 rfl (lv_at hl 2 rfl) ?_
        obtain ⟨z7, h7, h⟩ := ob_some h
        refine k_i (va_runSN (As := [.ref (ad b6), .int y1_2]) (rest := [.int z5]) ⟨hx, hb, hml, hown, hts⟩ (c_X11_entry (l := l) M b6 12 y1_2 kb6 h7) ⟨va_cnB 2 hts gX4_agrees_X11_entry_n39 rfl rfl rfl (hG.2.1 _ (List.mem_of_getElem? (i := 14) rfl)) (hts (.initialized RX11) (List.mem_of_getElem? (i := 10) (by decide +kernel))) hdS_X11_entry ⟨Nat.le_of_ble_eq_true rfl, Nat.le_of_ble_eq_true rfl⟩, (hts (.static yX11_entry) (List.mem_of_getElem? (i := 9) (by decide +kernel))), trivial⟩ (pS hP hK hD hT hG hS) rfl rfl hl.1 rfl (lv_room (Nat.le_of_ble_eq_true rfl)) dX4_agrees_27 ⟨Nat.zero_le _, Nat.zero_le _⟩) hS (fun H locs hP hD hT hS => ?_)
        refine lv_isub hx hb dX4_agrees_30 ?_
        refine va_mabs hx hb (hml.trans hl.1.symm) hown (hts (.methodLink RX4 48 Lib.Math.abs.name) (List.mem_of_getElem? (i := 4) (by decide +kernel))) (hts (.static Lib.Math.abs.name) (List.mem_of_getElem? (i := 5) (by decide +kernel))) (hts (.initialized "java/lang/Math") (List.mem_of_getElem? (i := 6) (by decide +kernel))) (hts (.code Lib.Math.abs.name Lib.Math.abs.code 1 (some .int)) (List.mem_of_getElem? (i := 7) (by decide +kernel))) (Nat.le_of_ble_eq_true rfl) (Nat.le_of_ble_eq_true rfl) (Nat.zero_le _) (Nat.zero_le _) dX4_agrees_31 ?_
        refine lv_aload_n hx hb dX4_agrees_34 rfl (lv_at hl 0 rfl) ?_
        rcases hN8 : gR M y1_0 2 with _ | b8
        · exact absurd (oc_n hN8 h) (by simp)
        replace h := oc_s hN8 h
        have kb8 := hT.f ky1_0 (k := 2) (t := 15) (n := 12) rfl hN8
        refine r_get (T := TX4) (v := .ref (ad b8)) hx hb hts in4 hown hK hP ky1_0 (by decide) rfl 2 (by decide) (hts (.fieldLink RX4 18 "StoneWalk$Sights" "offs" "[I") (List.mem_of_getElem? (i := 8) (by decide +kernel))) rfl (t := 2) rfl (by show va_rf _ = _; rw [hN8]; rfl) dX4_agrees_35 ?_
        refine lv_iload_n hx hb dX4_agrees_38 rfl (lv_at hl 2 rfl) ?_
        obtain ⟨z9, h9, h⟩ := ob_some h
        refine k_i (va_runSN (As := [.ref (ad b8), .int y1_2]) (rest := [.int (if 0 ≤ z5 - z7 then z5 - z7 else 0 - (z5 - z7))]) ⟨hx, hb, hml, hown, hts⟩ (c_X11_entry (l := l) M b8 12 y1_2 kb8 h9) ⟨va_cnB 2 hts gX4_agrees_X11_entry_n39 rfl rfl rfl (hG.2.1 _ (List.mem_of_getElem? (i := 14) rfl)) (hts (.initialized RX11) (List.mem_of_getElem? (i := 10) (by decide +kernel))) hdS_X11_entry ⟨Nat.le_of_ble_eq_true rfl, Nat.le_of_ble_eq_true rfl⟩, (hts (.static yX11_entry) (List.mem_of_getElem? (i := 9) (by decide +kernel))), trivial⟩ (pS hP hK hD hT hG hS) rfl rfl hl.1 rfl (lv_room (Nat.le_of_ble_eq_true rfl)) dX4_agrees_39 ⟨Nat.zero_le _, Nat.zero_le _⟩) hS (fun H locs hP hD hT hS => ?_)
        refine lv_icmp_le (tgt := 47) hx hb dX4_agrees_42 rfl (fun c10 => ?_) (fun c10 => ?_)
        · replace h := ite_t c10 h
          refine lv_iinc (v := y1_2 + 1) (lv' := [(2, .int (y1_2 + 1)), (0, .ref (ad y1_0)), (1, .ref (ad y1_1))]) hx hb dX4_agrees_47 hl (k := 2) rfl rfl (by decide) rfl (fun ls hl => ?_)
          refine lv_goto (tgt := 2) hx hb dX4_agrees_50 rfl ?_
          exact ih1 y1_0 y1_1 (y1_2 + 1) ky1_0 ky1_1 _ _ h hP hD hT hS ls (lv_sub hl [1, 2, 0] rfl)
        · replace h := ite_f c10 h
          refine lv_iconst (v := 0) hx hb dX4_agrees_45 rfl ?_
          exact r_zret hx hb hr hlocks hP hK hD hT hG hS zb_0 (Option.some.inj h) rfl dX4_agrees_46
  exact L1 FU a0 a1 0 k0 k1 _ _ h hP hD hT hS ls (lv_sub hl [1, 2, 0] rfl)
set_option maxHeartbeats 4000000 in
set_option maxRecDepth 100000 in
theorem c_X4_agreeing {l : Launch} {D : va_G} {ad : Nat → Nat} {cy : Nat → ClassId} {A : Nat → Prop} {g : CG} {q : SE} (M : MM) (a0 : Nat) (a1 : Nat) (k0 : ok g a0 4 0) (k1 : ok g a1 0 0) {Z : Int32} (h : f_X4_agreeing M a0 a1 = some Z) : Met l yX4_agreeing wsX4_agreeing ({ frames := 3, cells := 0, slots := 0, locals := 64 }) (va_Pc [.ref (ad a0), .ref (ad a1)] (Wd D ad cy A g q M)) (va_Qi (fun r u => r = Z ∧ u = M) (Wd D ad cy A g q) A) 0 0 A := by
  refine Met.ofW (cc := cX4_agreeing) (maxL := 5) (ret := (some .int)) (by decide) rfl ?_
  intro p e s m args below meth c s₁ B hml hv
  obtain ⟨rfl, hP, hK, hD, hT, hG⟩ := hv
  have hx := B.exec
  have hb := B.bytes
  have hr := B.returns
  have hts := atoms_spec (ws := wsX4_agreeing) B.pre
  have hown : s.vm.findClass RX4 = some m.cls := findClass_of_methodNamed B.named
  have hlocks := B.notSynchronized
  have hS : va_S A s.heap s.heap [] := va_S.rf
  have hl := lv_entry ([.ref (ad a0), .ref (ad a1)]) (n := 5) (Nat.le_of_ble_eq_true rfl)
  rw [lg_entry_eq]
  generalize (lg_sl ([.ref (ad a0), .ref (ad a1)]) ++ List.replicate (5 - (lg_sl ([.ref (ad a0), .ref (ad a1)])).length) Slot.unset).toArray = ls at hl ⊢
  have hl : lv_has ls 5 [(0, .ref (ad a0)), (1, .ref (ad a1))] := hl
  unfold f_X4_agreeing at h
  refine lv_iconst (v := 0) hx hb dX4_agreeing_0 rfl ?_
  refine lv_istore_n (lv' := [(2, .int 0), (0, .ref (ad a0)), (1, .ref (ad a1))]) hx hb dX4_agreeing_1 rfl hl (by decide) rfl (fun ls hl => ?_)
  refine lv_iconst (v := 0) hx hb dX4_agreeing_2 rfl ?_
  refine lv_istore_n (lv' := [(3, .int 0), (2, .int 0), (0, .ref (ad a0)), (1, .ref (ad a1))]) hx hb dX4_agreeing_3 rfl hl (by decide) rfl (fun ls hl => ?_)
  have L1 : ∀ n1 : Nat, ∀ (y1_0 : Nat) (y1_1 : Nat) (y1_2 : Int32) (y1_3 : Int32) (ky1_0 : ok g y1_0 4 0) (ky1_1 : ok g y1_1 0 0) (H : Heap) (locs : List Loc), f_X4_agreeing_L4 n1 M y1_0 y1_1 y1_2 y1_3 = some Z → va_P D vwCl (wd ad cy g M) H → va_D A (wd ad cy g M) → WT g M → va_S A s.heap H locs → ∀ (ls : Array Slot), lv_has ls 5 [(0, .ref (ad y1_0)), (1, .ref (ad y1_1)), (2, .int y1_2), (3, .int y1_3)] → W p l e ((headSpec wsX4_agreeing ({ frames := 3, cells := 0, slots := 0, locals := 64 })).room) s m (([.ref (ad a0), .ref (ad a1)] : List Value).toArray) below meth c H locs 0 0 (MQ below (va_Qi (fun r u => r = Z ∧ u = M) (Wd D ad cy A g q) A) ([.ref (ad a0), .ref (ad a1)]).toArray s 0 0 A) (F0 m 4 ls []) := by
    intro n1
    induction n1 with
    | zero => intro y1_0 y1_1 y1_2 y1_3 ky1_0 ky1_1 H locs h; exact absurd h (by simp [f_X4_agreeing_L4])
    | succ n1 ih1 =>
      intro y1_0 y1_1 y1_2 y1_3 ky1_0 ky1_1 H locs h hP hD hT hS ls hl
      rw [f_X4_agreeing_L4] at h
      refine lv_iload_n hx hb dX4_agreeing_4 rfl (lv_at hl 3 rfl) ?_
      refine lv_aload_n hx hb dX4_agreeing_5 rfl (lv_at hl 1 rfl) ?_
      refine lv_iconst (v := 4) hx hb dX4_agreeing_6 rfl ?_
      obtain ⟨z2, h2, h⟩ := ob_some h
      refine k_i (va_runV (As := [.int 4]) (rest := [.int y1_3]) ⟨hx, hb, hml, hown, hts⟩ (c_X0_count (l := l) M y1_1 4 ky1_1 h2) (cwV 1 hts gX4_agreeing_X0_count rfl rfl rfl hdV_X0_count ⟨Nat.le_of_ble_eq_true rfl, Nat.le_of_ble_eq_true rfl⟩) (pV (T := TX0) hP hK hD hT hG hS ky1_1 (by decide) rfl) rfl rfl hl.1 rfl (lv_room (Nat.le_of_ble_eq_true rfl)) dX4_agreeing_7 ⟨Nat.zero_le _, Nat.zero_le _⟩) hS (fun H locs hP hD hT hS => ?_)
      refine lv_icmp_ge (tgt := 46) hx hb dX4_agreeing_10 rfl (fun c3 => ?_) (fun c3 => ?_)
      · replace h := ite_t c3 h
        refine lv_iload_n hx hb dX4_agreeing_46 rfl (lv_at hl 2 rfl) ?_
        exact r_iret hx hb hr hlocks hP hK hD hT hG hS (Option.some.inj h) rfl dX4_agreeing_47
      · replace h := ite_f c3 h
        refine lv_aload_n hx hb dX4_agreeing_13 rfl (lv_at hl 1 rfl) ?_
        refine lv_iload_n hx hb dX4_agreeing_14 rfl (lv_at hl 3 rfl) ?_
        obtain ⟨z4, h4, h⟩ := ob_some h
        refine k_q (va_runV (As := [.int y1_3]) (rest := []) ⟨hx, hb, hml, hown, hts⟩ (c_X0_storyAt (l := l) M y1_1 y1_3 ky1_1 h4) (cwV 1 hts gX4_agreeing_X0_storyAt rfl rfl rfl hdV_X0_storyAt ⟨Nat.le_of_ble_eq_true rfl, Nat.le_of_ble_eq_true rfl⟩) (pV (T := TX0) hP hK hD hT hG hS ky1_1 (by decide) rfl) rfl rfl hl.1 rfl (lv_room (Nat.le_of_ble_eq_true rfl)) dX4_agreeing_15 ⟨Nat.zero_le _, Nat.zero_le _⟩) hS (fun H locs hq4 hP hD hT hS => ?_)
        rcases hN4 : z4 with _ | b4
        · replace h := oc_n hN4 h
          show W _ _ _ _ _ _ _ _ _ _ _ _ _ _ _ (F0 _ _ _ (.null :: []))
          refine lv_astoreN (lv' := [(4, .null), (0, .ref (ad y1_0)), (1, .ref (ad y1_1)), (2, .int y1_2), (3, .int y1_3)]) hx hb dX4_agreeing_18 hl (by decide) rfl (fun ls hl => ?_)
          refine lv_aloadN hx hb dX4_agreeing_20 (lv_at hl 0 rfl) ?_
          refine lv_ifnullN (tgt := 40) hx hb dX4_agreeing_22 rfl ?_
          refine lv_iinc (v := y1_3 + 1) (lv' := [(3, .int (y1_3 + 1)), (4, .null), (0, .ref (ad y1_0)), (1, .ref (ad y1_1)), (2, .int y1_2)]) hx hb dX4_agreeing_40 hl (k := 4) rfl rfl (by decide) rfl (fun ls hl => ?_)
          refine lv_goto (tgt := 4) hx hb dX4_agreeing_43 rfl ?_
          exact ih1 y1_0 y1_1 y1_2 (y1_3 + 1) ky1_0 ky1_1 _ _ h hP hD hT hS ls (lv_sub hl [2, 3, 4, 0] rfl)
        · replace h := oc_s hN4 h
          have kb4 := hq4 _ hN4
          show W _ _ _ _ _ _ _ _ _ _ _ _ _ _ _ (F0 _ _ _ (.ref (ad b4) :: []))
          refine lv_astore (lv' := [(4, .ref (ad b4)), (0, .ref (ad y1_0)), (1, .ref (ad y1_1)), (2, .int y1_2), (3, .int y1_3)]) hx hb dX4_agreeing_18 hl (by decide) rfl (fun ls hl => ?_)
          refine lv_aload hx hb dX4_agreeing_20 (lv_at hl 0 rfl) ?_
          refine lv_ifnull hx hb dX4_agreeing_22 ?_
          refine lv_aload_n hx hb dX4_agreeing_25 rfl (lv_at hl 1 rfl) ?_
          refine lv_aload hx hb dX4_agreeing_26 (lv_at hl 0 rfl) ?_
          obtain ⟨z5, h5, h⟩ := ob_some h
          refine k_z (va_runV (As := [.ref (ad b4)]) (rest := []) ⟨hx, hb, hml, hown, hts⟩ (c_X4_agrees (l := l) M y1_0 b4 ky1_0 kb4 h5) (cwV 1 hts gX4_agreeing_X4_agrees rfl rfl rfl hdV_X4_agrees ⟨Nat.le_of_ble_eq_true rfl, Nat.le_of_ble_eq_true rfl⟩) (pV (T := TX4) hP hK hD hT hG hS ky1_0 (by decide) rfl) rfl rfl hl.1 rfl (lv_room (Nat.le_of_ble_eq_true rfl)) dX4_agreeing_28 ⟨Nat.zero_le _, Nat.zero_le _⟩) hS (fun H locs hz5 hP hD hT hS => ?_)
          refine lv_if_eq (tgt := 40) hx hb dX4_agreeing_31 rfl (fun c6 => ?_) (fun c6 => ?_)
          · replace h := ite_t c6 h
            refine lv_iinc (v := y1_3 + 1) (lv' := [(3, .int (y1_3 + 1)), (4, .ref (ad b4)), (0, .ref (ad y1_0)), (1, .ref (ad y1_1)), (2, .int y1_2)]) hx hb dX4_agreeing_40 hl (k := 4) rfl rfl (by decide) rfl (fun ls hl => ?_)
            refine lv_goto (tgt := 4) hx hb dX4_agreeing_43 rfl ?_
            exact ih1 y1_0 y1_1 y1_2 (y1_3 + 1) ky1_0 ky1_1 _ _ h hP hD hT hS ls (lv_sub hl [2, 3, 4, 0] rfl)
          · replace h := ite_f c6 h
            refine lv_iload_n hx hb dX4_agreeing_34 rfl (lv_at hl 3 rfl) ?_
            refine lv_iconst (v := 1) hx hb dX4_agreeing_35 rfl ?_
            refine lv_iload_n hx hb dX4_agreeing_36 rfl (lv_at hl 4 rfl) ?_
            refine lv_ishl hx hb dX4_agreeing_37 ?_
            refine lv_ior hx hb dX4_agreeing_38 ?_
            refine lv_istore_n (lv' := [(2, .int (y1_2 ||| (1 <<< (y1_3 &&& 31)))), (4, .ref (ad b4)), (0, .ref (ad y1_0)), (1, .ref (ad y1_1)), (3, .int y1_3)]) hx hb dX4_agreeing_39 rfl hl (by decide) rfl (fun ls hl => ?_)
            refine lv_iinc (v := y1_3 + 1) (lv' := [(3, .int (y1_3 + 1)), (2, .int (y1_2 ||| (1 <<< (y1_3 &&& 31)))), (4, .ref (ad b4)), (0, .ref (ad y1_0)), (1, .ref (ad y1_1))]) hx hb dX4_agreeing_40 hl (k := 4) rfl rfl (by decide) rfl (fun ls hl => ?_)
            refine lv_goto (tgt := 4) hx hb dX4_agreeing_43 rfl ?_
            exact ih1 y1_0 y1_1 (y1_2 ||| (1 <<< (y1_3 &&& 31))) (y1_3 + 1) ky1_0 ky1_1 _ _ h hP hD hT hS ls (lv_sub hl [3, 4, 1, 0] rfl)
  exact L1 FU a0 a1 0 0 k0 k1 _ _ h hP hD hT hS ls (lv_sub hl [2, 3, 1, 0] rfl)
set_option maxHeartbeats 4000000 in
set_option maxRecDepth 100000 in
theorem c_X5_report {l : Launch} {D : va_G} {ad : Nat → Nat} {cy : Nat → ClassId} {A : Nat → Prop} {g : CG} {q : SE} (M : MM) (a0 : Nat) (x1 : Int32) (k0 : ok g a0 5 0) {Z : Int32} (h : f_X5_report M a0 x1 = some Z) : Met l yX5_report wsX5_report ({ frames := 0, cells := 0, slots := 0, locals := 0 }) (va_Pc [.ref (ad a0), .int x1] (Wd D ad cy A g q M)) (va_Qi (fun r u => r = Z ∧ u = M) (Wd D ad cy A g q) A) 0 0 A := by
  refine Met.ofW (cc := cX5_report) (maxL := 2) (ret := (some .int)) (by decide) rfl ?_
  intro p e s m args below meth c s₁ B hml hv
  obtain ⟨rfl, hP, hK, hD, hT, hG⟩ := hv
  have hx := B.exec
  have hb := B.bytes
  have hr := B.returns
  have hts := atoms_spec (ws := wsX5_report) B.pre
  have hown : s.vm.findClass RX5 = some m.cls := findClass_of_methodNamed B.named
  have hlocks := B.notSynchronized
  have in5 : ∀ w ∈ u_ws RX5 TX5 8, w ∈ wsX5_report := fun w h => List.mem_cons_of_mem _ (List.mem_append_right _ h)
  have hS : va_S A s.heap s.heap [] := va_S.rf
  have hl := lv_entry ([.ref (ad a0), .int x1]) (n := 2) (Nat.le_of_ble_eq_true rfl)
  rw [lg_entry_eq]
  generalize (lg_sl ([.ref (ad a0), .int x1]) ++ List.replicate (2 - (lg_sl ([.ref (ad a0), .int x1])).length) Slot.unset).toArray = ls at hl ⊢
  have hl : lv_has ls 2 [(0, .ref (ad a0)), (1, .int x1)] := hl
  unfold f_X5_report at h
  refine lv_iload_n hx hb dX5_report_0 rfl (lv_at hl 1 rfl) ?_
  by_cases c1_0 : x1 = 0
  · replace h := ite_t c1_0 h
    refine lv_tableIn (tgt := 44) (off := 43) hx hb dX5_report_1 (by rw [c1_0]; decide) (by rw [c1_0]; decide) (by rw [c1_0]; decide) rfl ?_
    refine lv_aload_n hx hb dX5_report_44 rfl (lv_at hl 0 rfl) ?_
    refine r_get (T := TX5) (v := .int (gI M a0 0)) hx hb hts in5 hown hK hP k0 (by decide) rfl 0 (by decide) (hts (.fieldLink RX5 15 "StoneWalk$Stone" "tons" "I") (List.mem_of_getElem? (i := 1) (by decide +kernel))) rfl (t := 0) rfl rfl dX5_report_45 ?_
    exact r_iret hx hb hr hlocks hP hK hD hT hG hS (Option.some.inj h) rfl dX5_report_48
  · replace h := ite_f c1_0 h
    by_cases c1_1 : x1 = 1
    · replace h := ite_t c1_1 h
      refine lv_tableIn (tgt := 49) (off := 48) hx hb dX5_report_1 (by rw [c1_1]; decide) (by rw [c1_1]; decide) (by rw [c1_1]; decide) rfl ?_
      refine lv_aload_n hx hb dX5_report_49 rfl (lv_at hl 0 rfl) ?_
      refine r_get (T := TX5) (v := .int (gI M a0 1)) hx hb hts in5 hown hK hP k0 (by decide) rfl 1 (by decide) (hts (.fieldLink RX5 18 "StoneWalk$Stone" "lean" "I") (List.mem_of_getElem? (i := 2) (by decide +kernel))) rfl (t := 0) rfl rfl dX5_report_50 ?_
      exact r_iret hx hb hr hlocks hP hK hD hT hG hS (Option.some.inj h) rfl dX5_report_53
    · replace h := ite_f c1_1 h
      by_cases c1_2 : x1 = 2
      · replace h := ite_t c1_2 h
        refine lv_tableIn (tgt := 54) (off := 53) hx hb dX5_report_1 (by rw [c1_2]; decide) (by rw [c1_2]; decide) (by rw [c1_2]; decide) rfl ?_
        refine lv_aload_n hx hb dX5_report_54 rfl (lv_at hl 0 rfl) ?_
        refine r_get (T := TX5) (v := .int (gI M a0 2)) hx hb hts in5 hown hK hP k0 (by decide) rfl 2 (by decide) (hts (.fieldLink RX5 21 "StoneWalk$Stone" "edge" "I") (List.mem_of_getElem? (i := 3) (by decide +kernel))) rfl (t := 0) rfl rfl dX5_report_55 ?_
        exact r_iret hx hb hr hlocks hP hK hD hT hG hS (Option.some.inj h) rfl dX5_report_58
      · replace h := ite_f c1_2 h
        by_cases c1_3 : x1 = 3
        · replace h := ite_t c1_3 h
          refine lv_tableIn (tgt := 59) (off := 58) hx hb dX5_report_1 (by rw [c1_3]; decide) (by rw [c1_3]; decide) (by rw [c1_3]; decide) rfl ?_
          refine lv_aload_n hx hb dX5_report_59 rfl (lv_at hl 0 rfl) ?_
          refine r_get (T := TX5) (v := .int (gI M a0 3)) hx hb hts in5 hown hK hP k0 (by decide) rfl 3 (by decide) (hts (.fieldLink RX5 9 "StoneWalk$Stone" "sort" "I") (List.mem_of_getElem? (i := 4) (by decide +kernel))) rfl (t := 0) rfl rfl dX5_report_60 ?_
          exact r_iret hx hb hr hlocks hP hK hD hT hG hS (Option.some.inj h) rfl dX5_report_63
        · replace h := ite_f c1_3 h
          by_cases c1_4 : x1 = 4
          · replace h := ite_t c1_4 h
            refine lv_tableIn (tgt := 64) (off := 63) hx hb dX5_report_1 (by rw [c1_4]; decide) (by rw [c1_4]; decide) (by rw [c1_4]; decide) rfl ?_
            refine lv_aload_n hx hb dX5_report_64 rfl (lv_at hl 0 rfl) ?_
            refine r_get (T := TX5) (v := .int (gI M a0 4)) hx hb hts in5 hown hK hP k0 (by decide) rfl 4 (by decide) (hts (.fieldLink RX5 24 "StoneWalk$Stone" "lie" "I") (List.mem_of_getElem? (i := 5) (by decide +kernel))) rfl (t := 0) rfl rfl dX5_report_65 ?_
            exact r_iret hx hb hr hlocks hP hK hD hT hG hS (Option.some.inj h) rfl dX5_report_68
          · replace h := ite_f c1_4 h
            by_cases c1_5 : x1 = 5
            · replace h := ite_t c1_5 h
              refine lv_tableIn (tgt := 69) (off := 68) hx hb dX5_report_1 (by rw [c1_5]; decide) (by rw [c1_5]; decide) (by rw [c1_5]; decide) rfl ?_
              refine lv_aload_n hx hb dX5_report_69 rfl (lv_at hl 0 rfl) ?_
              refine r_get (T := TX5) (v := .int (gI M a0 5)) hx hb hts in5 hown hK hP k0 (by decide) rfl 5 (by decide) (hts (.fieldLink RX5 27 "StoneWalk$Stone" "road" "I") (List.mem_of_getElem? (i := 6) (by decide +kernel))) rfl (t := 0) rfl rfl dX5_report_70 ?_
              exact r_iret hx hb hr hlocks hP hK hD hT hG hS (Option.some.inj h) rfl dX5_report_73
            · replace h := ite_f c1_5 h
              by_cases c1_6 : x1 = 6
              · replace h := ite_t c1_6 h
                refine lv_tableIn (tgt := 74) (off := 73) hx hb dX5_report_1 (by rw [c1_6]; decide) (by rw [c1_6]; decide) (by rw [c1_6]; decide) rfl ?_
                refine lv_aload_n hx hb dX5_report_74 rfl (lv_at hl 0 rfl) ?_
                refine r_get (T := TX5) (v := .int (gI M a0 6)) hx hb hts in5 hown hK hP k0 (by decide) rfl 6 (by decide) (hts (.fieldLink RX5 30 "StoneWalk$Stone" "place" "I") (List.mem_of_getElem? (i := 7) (by decide +kernel))) rfl (t := 0) rfl rfl dX5_report_75 ?_
                exact r_iret hx hb hr hlocks hP hK hD hT hG hS (Option.some.inj h) rfl dX5_report_78
              · replace h := ite_f c1_6 h
                refine lv_tableOut (tgt := 79) hx hb dX5_report_1 (by
                    have e0 := lv_neT (a := 0) c1_0 rfl
                    have e1 := lv_neT (a := 1) c1_1 rfl
                    have e2 := lv_neT (a := 2) c1_2 rfl
                    have e3 := lv_neT (a := 3) c1_3 rfl
                    have e4 := lv_neT (a := 4) c1_4 rfl
                    have e5 := lv_neT (a := 5) c1_5 rfl
                    have e6 := lv_neT (a := 6) c1_6 rfl
                    omega) rfl ?_
                refine lv_iconst (v := (-1)) hx hb dX5_report_79 rfl ?_
                exact r_iret hx hb hr hlocks hP hK hD hT hG hS (Option.some.inj h) rfl dX5_report_80
set_option maxHeartbeats 4000000 in
set_option maxRecDepth 100000 in
theorem c_X6_yearGone {l : Launch} {D : va_G} {ad : Nat → Nat} {cy : Nat → ClassId} {A : Nat → Prop} {g : CG} {q : SE} (M : MM) (a0 : Nat) (k0 : ok g a0 6 0) {Z : Int32} (h : f_X6_yearGone M a0 = some Z) : Met l yX6_yearGone wsX6_yearGone ({ frames := 0, cells := 0, slots := 0, locals := 0 }) (va_Pc [.ref (ad a0)] (Wd D ad cy A g q M)) (va_Qi (fun r u => r = Z ∧ u = M) (Wd D ad cy A g q) A) 0 0 A := by
  refine Met.ofW (cc := cX6_yearGone) (maxL := 2) (ret := (some .int)) (by decide) rfl ?_
  intro p e s m args below meth c s₁ B hml hv
  obtain ⟨rfl, hP, hK, hD, hT, hG⟩ := hv
  have hx := B.exec
  have hb := B.bytes
  have hr := B.returns
  have hts := atoms_spec (ws := wsX6_yearGone) B.pre
  have hown : s.vm.findClass RX6 = some m.cls := findClass_of_methodNamed B.named
  have hlocks := B.notSynchronized
  have in6 : ∀ w ∈ u_ws RX6 TX6 5, w ∈ wsX6_yearGone := fun w h => List.mem_cons_of_mem _ (List.mem_append_right _ h)
  have hS : va_S A s.heap s.heap [] := va_S.rf
  have hl := lv_entry ([.ref (ad a0)]) (n := 2) (Nat.le_of_ble_eq_true rfl)
  rw [lg_entry_eq]
  generalize (lg_sl ([.ref (ad a0)]) ++ List.replicate (2 - (lg_sl ([.ref (ad a0)])).length) Slot.unset).toArray = ls at hl ⊢
  have hl : lv_has ls 2 [(0, .ref (ad a0))] := hl
  unfold f_X6_yearGone at h
  refine lv_iconst (v := 0) hx hb dX6_yearGone_0 rfl ?_
  refine lv_istore_n (lv' := [(1, .int 0), (0, .ref (ad a0))]) hx hb dX6_yearGone_1 rfl hl (by decide) rfl (fun ls hl => ?_)
  have L1 : ∀ n1 : Nat, ∀ (y1_0 : Nat) (y1_1 : Int32) (ky1_0 : ok g y1_0 6 0) (H : Heap) (locs : List Loc), f_X6_yearGone_L2 n1 M y1_0 y1_1 = some Z → va_P D vwCl (wd ad cy g M) H → va_D A (wd ad cy g M) → WT g M → va_S A s.heap H locs → ∀ (ls : Array Slot), lv_has ls 2 [(0, .ref (ad y1_0)), (1, .int y1_1)] → W p l e ((headSpec wsX6_yearGone ({ frames := 0, cells := 0, slots := 0, locals := 0 })).room) s m (([.ref (ad a0)] : List Value).toArray) below meth c H locs 0 0 (MQ below (va_Qi (fun r u => r = Z ∧ u = M) (Wd D ad cy A g q) A) ([.ref (ad a0)]).toArray s 0 0 A) (F0 m 2 ls []) := by
    intro n1
    induction n1 with
    | zero => intro y1_0 y1_1 ky1_0 H locs h; exact absurd h (by simp [f_X6_yearGone_L2])
    | succ n1 ih1 =>
      intro y1_0 y1_1 ky1_0 H locs h hP hD hT hS ls hl
      rw [f_X6_yearGone_L2] at h
      refine lv_iload_n hx hb dX6_yearGone_2 rfl (lv_at hl 1 rfl) ?_
      refine lv_aload_n hx hb dX6_yearGone_3 rfl (lv_at hl 0 rfl) ?_
      rcases hN2 : gR M y1_0 4 with _ | b2
      · exact absurd (oc_n hN2 h) (by simp)
      replace h := oc_s hN2 h
      have kb2 := hT.f ky1_0 (k := 4) (t := 15) (n := 100) rfl hN2
      refine r_get (T := TX6) (v := .ref (ad b2)) hx hb hts in6 hown hK hP ky1_0 (by decide) rfl 4 (by decide) (hts (.fieldLink RX6 9 "StoneWalk$Story" "counts" "[I") (List.mem_of_getElem? (i := 1) (by decide +kernel))) rfl (t := 2) rfl (by show va_rf _ = _; rw [hN2]; rfl) dX6_yearGone_4 ?_
      refine r_alen (t0 := 1) (v := 100) hx hb hK hP kb2 (by decide) rfl rfl dX6_yearGone_7 ?_
      refine lv_icmp_ge (tgt := 30) hx hb dX6_yearGone_8 rfl (fun c3 => ?_) (fun c3 => ?_)
      · replace h := ite_t c3 h
        refine lv_bipush (v := (-2)) hx hb dX6_yearGone_30 rfl ?_
        exact r_iret hx hb hr hlocks hP hK hD hT hG hS (Option.some.inj h) rfl dX6_yearGone_32
      · replace h := ite_f c3 h
        refine lv_aload_n hx hb dX6_yearGone_11 rfl (lv_at hl 0 rfl) ?_
        rcases hN4 : gR M y1_0 4 with _ | b4
        · exact absurd (oc_n hN4 h) (by simp)
        replace h := oc_s hN4 h
        have kb4 := hT.f ky1_0 (k := 4) (t := 15) (n := 100) rfl hN4
        refine r_get (T := TX6) (v := .ref (ad b4)) hx hb hts in6 hown hK hP ky1_0 (by decide) rfl 4 (by decide) (hts (.fieldLink RX6 9 "StoneWalk$Story" "counts" "[I") (List.mem_of_getElem? (i := 1) (by decide +kernel))) rfl (t := 2) rfl (by show va_rf _ = _; rw [hN4]; rfl) dX6_yearGone_12 ?_
        refine lv_iload_n hx hb dX6_yearGone_15 rfl (lv_at hl 1 rfl) ?_
        obtain ⟨hn5, h⟩ := chk_some h
        refine r_iald hx hb hK hP kb4 hn5 dX6_yearGone_16 ?_
        refine lv_bipush (v := 10) hx hb dX6_yearGone_17 rfl ?_
        refine lv_icmp_ge (tgt := 24) hx hb dX6_yearGone_19 rfl (fun c6 => ?_) (fun c6 => ?_)
        · replace h := ite_t c6 h
          refine lv_iinc (v := y1_1 + 1) (lv' := [(1, .int (y1_1 + 1)), (0, .ref (ad y1_0))]) hx hb dX6_yearGone_24 hl (k := 1) rfl rfl (by decide) rfl (fun ls hl => ?_)
          refine lv_goto (tgt := 2) hx hb dX6_yearGone_27 rfl ?_
          exact ih1 y1_0 (y1_1 + 1) ky1_0 _ _ h hP hD hT hS ls (lv_sub hl [1, 0] rfl)
        · replace h := ite_f c6 h
          refine lv_iload_n hx hb dX6_yearGone_22 rfl (lv_at hl 1 rfl) ?_
          exact r_iret hx hb hr hlocks hP hK hD hT hG hS (Option.some.inj h) rfl dX6_yearGone_23
  exact L1 FU a0 0 k0 _ _ h hP hD hT hS ls (lv_sub hl [1, 0] rfl)
set_option maxHeartbeats 4000000 in
set_option maxRecDepth 100000 in
theorem c_X7_hasRoomFor {l : Launch} {D : va_G} {ad : Nat → Nat} {cy : Nat → ClassId} {A : Nat → Prop} {g : CG} {q : SE} (M : MM) (a0 : Nat) (x1 : Int32) (k0 : ok g a0 7 0) {Z : Int32} (h : f_X7_hasRoomFor M a0 x1 = some Z) : Met l yX7_hasRoomFor wsX7_hasRoomFor ({ frames := 0, cells := 0, slots := 0, locals := 0 }) (va_Pc [.ref (ad a0), .int x1] (Wd D ad cy A g q M)) (va_Qi (fun r u => r = Z ∧ u = M ∧ zb r) (Wd D ad cy A g q) A) 0 0 A := by
  refine Met.ofW (cc := cX7_hasRoomFor) (maxL := 2) (ret := (some .boolean)) (by decide) rfl ?_
  intro p e s m args below meth c s₁ B hml hv
  obtain ⟨rfl, hP, hK, hD, hT, hG⟩ := hv
  have hx := B.exec
  have hb := B.bytes
  have hr := B.returns
  have hts := atoms_spec (ws := wsX7_hasRoomFor) B.pre
  have hown : s.vm.findClass RX7 = some m.cls := findClass_of_methodNamed B.named
  have hlocks := B.notSynchronized
  have in7 : ∀ w ∈ u_ws RX7 TX7 7, w ∈ wsX7_hasRoomFor := fun w h => List.mem_cons_of_mem _ (List.mem_append_right _ h)
  have hS : va_S A s.heap s.heap [] := va_S.rf
  have hl := lv_entry ([.ref (ad a0), .int x1]) (n := 2) (Nat.le_of_ble_eq_true rfl)
  rw [lg_entry_eq]
  generalize (lg_sl ([.ref (ad a0), .int x1]) ++ List.replicate (2 - (lg_sl ([.ref (ad a0), .int x1])).length) Slot.unset).toArray = ls at hl ⊢
  have hl : lv_has ls 2 [(0, .ref (ad a0)), (1, .int x1)] := hl
  unfold f_X7_hasRoomFor at h
  refine lv_aload_n hx hb dX7_hasRoomFor_0 rfl (lv_at hl 0 rfl) ?_
  refine r_get (T := TX7) (v := .int (gI M a0 1)) hx hb hts in7 hown hK hP k0 (by decide) rfl 1 (by decide) (hts (.fieldLink RX7 15 "StoneWalk$Tape" "held" "I") (List.mem_of_getElem? (i := 1) (by decide +kernel))) rfl (t := 0) rfl rfl dX7_hasRoomFor_1 ?_
  refine lv_iload_n hx hb dX7_hasRoomFor_4 rfl (lv_at hl 1 rfl) ?_
  refine lv_iadd hx hb dX7_hasRoomFor_5 ?_
  refine lv_aload_n hx hb dX7_hasRoomFor_6 rfl (lv_at hl 0 rfl) ?_
  rcases hN1 : gR M a0 0 with _ | b1
  · exact absurd (oc_n hN1 h) (by simp)
  replace h := oc_s hN1 h
  have kb1 := hT.f k0 (k := 0) (t := 14) (n := 900) rfl hN1
  refine r_get (T := TX7) (v := .ref (ad b1)) hx hb hts in7 hown hK hP k0 (by decide) rfl 0 (by decide) (hts (.fieldLink RX7 9 "StoneWalk$Tape" "bytes" "[B") (List.mem_of_getElem? (i := 2) (by decide +kernel))) rfl (t := 2) rfl (by show va_rf _ = _; rw [hN1]; rfl) dX7_hasRoomFor_7 ?_
  refine r_alen (t0 := 0) (v := 900) hx hb hK hP kb1 (by decide) rfl rfl dX7_hasRoomFor_10 ?_
  refine lv_icmp_gt (tgt := 18) hx hb dX7_hasRoomFor_11 rfl (fun c2 => ?_) (fun c2 => ?_)
  · replace h := ite_t c2 h
    refine lv_iconst (v := 0) hx hb dX7_hasRoomFor_18 rfl ?_
    exact r_zret hx hb hr hlocks hP hK hD hT hG hS zb_0 (Option.some.inj h) rfl dX7_hasRoomFor_19
  · replace h := ite_f c2 h
    refine lv_iconst (v := 1) hx hb dX7_hasRoomFor_14 rfl ?_
    refine lv_goto (tgt := 19) hx hb dX7_hasRoomFor_15 rfl ?_
    exact r_zret hx hb hr hlocks hP hK hD hT hG hS zb_1 (Option.some.inj h) rfl dX7_hasRoomFor_19
set_option maxHeartbeats 4000000 in
set_option maxRecDepth 100000 in
theorem c_X7_put {l : Launch} {D : va_G} {ad : Nat → Nat} {cy : Nat → ClassId} {A : Nat → Prop} {g : CG} {q : SE} (M : MM) (a0 : Nat) (x1 : Int32) (k0 : ok g a0 7 0) {Z : MM} (h : f_X7_put M a0 x1 = some Z) : Met l yX7_put wsX7_put ({ frames := 0, cells := 0, slots := 0, locals := 0 }) (va_Pc [.ref (ad a0), .int x1] (Wd D ad cy A g q M)) (va_Qv (fun u => u = Z) (Wd D ad cy A g q) A) 0 0 A := by
  refine Met.ofW (cc := cX7_put) (maxL := 3) (ret := none) (by decide) rfl ?_
  intro p e s m args below meth c s₁ B hml hv
  obtain ⟨rfl, hP, hK, hD, hT, hG⟩ := hv
  have hx := B.exec
  have hb := B.bytes
  have hr := B.returns
  have hts := atoms_spec (ws := wsX7_put) B.pre
  have hown : s.vm.findClass RX7 = some m.cls := findClass_of_methodNamed B.named
  have hlocks := B.notSynchronized
  have in7 : ∀ w ∈ u_ws RX7 TX7 7, w ∈ wsX7_put := fun w h => List.mem_cons_of_mem _ (List.mem_append_right _ h)
  have hS : va_S A s.heap s.heap [] := va_S.rf
  have hl := lv_entry ([.ref (ad a0), .int x1]) (n := 3) (Nat.le_of_ble_eq_true rfl)
  rw [lg_entry_eq]
  generalize (lg_sl ([.ref (ad a0), .int x1]) ++ List.replicate (3 - (lg_sl ([.ref (ad a0), .int x1])).length) Slot.unset).toArray = ls at hl ⊢
  have hl : lv_has ls 3 [(0, .ref (ad a0)), (1, .int x1)] := hl
  unfold f_X7_put at h
  refine lv_bipush (v := 24) hx hb dX7_put_0 rfl ?_
  refine lv_istore_n (lv' := [(2, .int 24), (0, .ref (ad a0)), (1, .int x1)]) hx hb dX7_put_2 rfl hl (by decide) rfl (fun ls hl => ?_)
  have L1 : ∀ n1 : Nat, ∀ (M1 : MM) (y1_0 : Nat) (y1_1 : Int32) (y1_2 : Int32) (ky1_0 : ok g y1_0 7 0) (H : Heap) (locs : List Loc), f_X7_put_L3 n1 M1 y1_0 y1_1 y1_2 = some Z → va_P D vwCl (wd ad cy g M1) H → va_D A (wd ad cy g M1) → WT g M1 → va_S A s.heap H locs → ∀ (ls : Array Slot), lv_has ls 3 [(0, .ref (ad y1_0)), (1, .int y1_1), (2, .int y1_2)] → W p l e ((headSpec wsX7_put ({ frames := 0, cells := 0, slots := 0, locals := 0 })).room) s m (([.ref (ad a0), .int x1] : List Value).toArray) below meth c H locs 0 0 (MQ below (va_Qv (fun u => u = Z) (Wd D ad cy A g q) A) ([.ref (ad a0), .int x1]).toArray s 0 0 A) (F0 m 3 ls []) := by
    intro n1
    induction n1 with
    | zero => intro M1 y1_0 y1_1 y1_2 ky1_0 H locs h; exact absurd h (by simp [f_X7_put_L3])
    | succ n1 ih1 =>
      intro M1 y1_0 y1_1 y1_2 ky1_0 H locs h hP hD hT hS ls hl
      rw [f_X7_put_L3] at h
      refine lv_iload_n hx hb dX7_put_3 rfl (lv_at hl 2 rfl) ?_
      refine lv_if_lt (tgt := 48) hx hb dX7_put_4 rfl (fun c2 => ?_) (fun c2 => ?_)
      · replace h := ite_t c2 h
        exact r_vret hx hb hr hlocks hP hK hD hT hG hS (Option.some.inj h) dX7_put_48
      · replace h := ite_f c2 h
        refine lv_aload_n hx hb dX7_put_7 rfl (lv_at hl 0 rfl) ?_
        refine r_get (T := TX7) (v := .int (gI M1 y1_0 1)) hx hb hts in7 hown hK hP ky1_0 (by decide) rfl 1 (by decide) (hts (.fieldLink RX7 15 "StoneWalk$Tape" "held" "I") (List.mem_of_getElem? (i := 1) (by decide +kernel))) rfl (t := 0) rfl rfl dX7_put_8 ?_
        refine lv_aload_n hx hb dX7_put_11 rfl (lv_at hl 0 rfl) ?_
        rcases hN3 : gR M1 y1_0 0 with _ | b3
        · exact absurd (oc_n hN3 h) (by simp)
        replace h := oc_s hN3 h
        have kb3 := hT.f ky1_0 (k := 0) (t := 14) (n := 900) rfl hN3
        refine r_get (T := TX7) (v := .ref (ad b3)) hx hb hts in7 hown hK hP ky1_0 (by decide) rfl 0 (by decide) (hts (.fieldLink RX7 9 "StoneWalk$Tape" "bytes" "[B") (List.mem_of_getElem? (i := 2) (by decide +kernel))) rfl (t := 2) rfl (by show va_rf _ = _; rw [hN3]; rfl) dX7_put_12 ?_
        refine r_alen (t0 := 0) (v := 900) hx hb hK hP kb3 (by decide) rfl rfl dX7_put_15 ?_
        refine lv_icmp_ge (tgt := 42) hx hb dX7_put_16 rfl (fun c4 => ?_) (fun c4 => ?_)
        · replace h := ite_t c4 h
          refine lv_iinc (v := y1_2 + (-8)) (lv' := [(2, .int (y1_2 + (-8))), (0, .ref (ad y1_0)), (1, .int y1_1)]) hx hb dX7_put_42 hl (k := 2) rfl rfl (by decide) rfl (fun ls hl => ?_)
          refine lv_goto (tgt := 3) hx hb dX7_put_45 rfl ?_
          exact ih1 M1 y1_0 y1_1 (y1_2 + (-8)) ky1_0 _ _ h hP hD hT hS ls (lv_sub hl [1, 2, 0] rfl)
        · replace h := ite_f c4 h
          refine lv_aload_n hx hb dX7_put_19 rfl (lv_at hl 0 rfl) ?_
          rcases hN5 : gR M1 y1_0 0 with _ | b5
          · exact absurd (oc_n hN5 h) (by simp)
          replace h := oc_s hN5 h
          have kb5 := hT.f ky1_0 (k := 0) (t := 14) (n := 900) rfl hN5
          refine r_get (T := TX7) (v := .ref (ad b5)) hx hb hts in7 hown hK hP ky1_0 (by decide) rfl 0 (by decide) (hts (.fieldLink RX7 9 "StoneWalk$Tape" "bytes" "[B") (List.mem_of_getElem? (i := 2) (by decide +kernel))) rfl (t := 2) rfl (by show va_rf _ = _; rw [hN5]; rfl) dX7_put_20 ?_
          refine lv_aload_n hx hb dX7_put_23 rfl (lv_at hl 0 rfl) ?_
          refine r_get (T := TX7) (v := .int (gI M1 y1_0 1)) hx hb hts in7 hown hK hP ky1_0 (by decide) rfl 1 (by decide) (hts (.fieldLink RX7 15 "StoneWalk$Tape" "held" "I") (List.mem_of_getElem? (i := 1) (by decide +kernel))) rfl (t := 0) rfl rfl dX7_put_24 ?_
          refine lv_iload_n hx hb dX7_put_27 rfl (lv_at hl 1 rfl) ?_
          refine lv_iload_n hx hb dX7_put_28 rfl (lv_at hl 2 rfl) ?_
          refine lv_ishr hx hb dX7_put_29 ?_
          refine lv_i2b hx hb dX7_put_30 rfl ?_
          obtain ⟨hn6, h⟩ := chk_some h
          refine r_bast hx hb hK hP hD hT hS kb5 hn6 dX7_put_31 (fun H locs hP hD hT hS => ?_)
          refine lv_aload_n hx hb dX7_put_32 rfl (lv_at hl 0 rfl) ?_
          refine lv_dup hx hb dX7_put_33 rfl ?_
          refine r_get (T := TX7) (v := .int (gI (pI M1 b5 (ix (gI M1 y1_0 1)) (vp_nar .byte ((y1_1 >>> (y1_2 &&& 31)).toInt8.toInt32))) y1_0 1)) hx hb hts in7 hown hK hP ky1_0 (by decide) rfl 1 (by decide) (hts (.fieldLink RX7 15 "StoneWalk$Tape" "held" "I") (List.mem_of_getElem? (i := 1) (by decide +kernel))) rfl (t := 0) rfl rfl dX7_put_34 ?_
          refine lv_iconst (v := 1) hx hb dX7_put_37 rfl ?_
          refine lv_iadd hx hb dX7_put_38 ?_
          refine r_putI (T := TX7) (ty := .int) (v := (gI (pI M1 b5 (ix (gI M1 y1_0 1)) (vp_nar .byte ((y1_1 >>> (y1_2 &&& 31)).toInt8.toInt32))) y1_0 1) + 1) hx hb hts in7 tyX7 tyX7_ok nmX7 hown hK hP hD hT hS ky1_0 (by decide) rfl 1 (by decide) (hts (.fieldLink RX7 15 "StoneWalk$Tape" "held" "I") (List.mem_of_getElem? (i := 1) (by decide +kernel))) rfl rfl (tyX7_ok 1 (by decide)) rfl rfl rfl dX7_put_39 (fun H locs hP hD hT hS => ?_)
          refine lv_iinc (v := y1_2 + (-8)) (lv' := [(2, .int (y1_2 + (-8))), (0, .ref (ad y1_0)), (1, .int y1_1)]) hx hb dX7_put_42 hl (k := 2) rfl rfl (by decide) rfl (fun ls hl => ?_)
          refine lv_goto (tgt := 3) hx hb dX7_put_45 rfl ?_
          exact ih1 (pI (pI M1 b5 (ix (gI M1 y1_0 1)) (vp_nar .byte ((y1_1 >>> (y1_2 &&& 31)).toInt8.toInt32))) y1_0 1 ((gI (pI M1 b5 (ix (gI M1 y1_0 1)) (vp_nar .byte ((y1_1 >>> (y1_2 &&& 31)).toInt8.toInt32))) y1_0 1) + 1)) y1_0 y1_1 (y1_2 + (-8)) ky1_0 _ _ h hP hD hT hS ls (lv_sub hl [1, 2, 0] rfl)
  exact L1 FU M a0 x1 24 k0 _ _ h hP hD hT hS ls (lv_sub hl [1, 2, 0] rfl)
set_option maxHeartbeats 4000000 in
set_option maxRecDepth 100000 in
theorem c_X7_empty {l : Launch} {D : va_G} {ad : Nat → Nat} {cy : Nat → ClassId} {A : Nat → Prop} {g : CG} {q : SE} (M : MM) (a0 : Nat) (k0 : ok g a0 7 0) {Z : MM} (h : f_X7_empty M a0 = some Z) : Met l yX7_empty wsX7_empty ({ frames := 0, cells := 0, slots := 0, locals := 0 }) (va_Pc [.ref (ad a0)] (Wd D ad cy A g q M)) (va_Qv (fun u => u = Z) (Wd D ad cy A g q) A) 0 0 A := by
  refine Met.ofW (cc := cX7_empty) (maxL := 1) (ret := none) (by decide) rfl ?_
  intro p e s m args below meth c s₁ B hml hv
  obtain ⟨rfl, hP, hK, hD, hT, hG⟩ := hv
  have hx := B.exec
  have hb := B.bytes
  have hr := B.returns
  have hts := atoms_spec (ws := wsX7_empty) B.pre
  have hown : s.vm.findClass RX7 = some m.cls := findClass_of_methodNamed B.named
  have hlocks := B.notSynchronized
  have in7 : ∀ w ∈ u_ws RX7 TX7 7, w ∈ wsX7_empty := fun w h => List.mem_cons_of_mem _ (List.mem_append_right _ h)
  have hS : va_S A s.heap s.heap [] := va_S.rf
  have hl := lv_entry ([.ref (ad a0)]) (n := 1) (Nat.le_of_ble_eq_true rfl)
  rw [lg_entry_eq]
  generalize (lg_sl ([.ref (ad a0)]) ++ List.replicate (1 - (lg_sl ([.ref (ad a0)])).length) Slot.unset).toArray = ls at hl ⊢
  have hl : lv_has ls 1 [(0, .ref (ad a0))] := hl
  unfold f_X7_empty at h
  refine lv_aload_n hx hb dX7_empty_0 rfl (lv_at hl 0 rfl) ?_
  refine lv_iconst (v := 0) hx hb dX7_empty_1 rfl ?_
  refine r_putI (T := TX7) (ty := .int) (v := 0) hx hb hts in7 tyX7 tyX7_ok nmX7 hown hK hP hD hT hS k0 (by decide) rfl 1 (by decide) (hts (.fieldLink RX7 15 "StoneWalk$Tape" "held" "I") (List.mem_of_getElem? (i := 1) (by decide +kernel))) rfl rfl (tyX7_ok 1 (by decide)) rfl rfl rfl dX7_empty_2 (fun H locs hP hD hT hS => ?_)
  exact r_vret hx hb hr hlocks hP hK hD hT hG hS (Option.some.inj h) dX7_empty_5
set_option maxHeartbeats 4000000 in
set_option maxRecDepth 100000 in
theorem c_X10_limit {l : Launch} {D : va_G} {ad : Nat → Nat} {cy : Nat → ClassId} {A : Nat → Prop} {g : CG} {q : SE} (M : MM) (a0 : Nat) (a1 : Nat) (x2 : Int32) (k0 : ok g a0 10 0) (k1 : ok g a1 5 0) {Z : Int32} (h : f_X10_limit M a0 a1 x2 = some Z) : Met l yX10_limit wsX10_limit ({ frames := 1, cells := 0, slots := 0, locals := 22 }) (va_Pc [.ref (ad a0), .ref (ad a1), .int x2] (Wd D ad cy A g q M)) (va_Qi (fun r u => r = Z ∧ u = M) (Wd D ad cy A g q) A) 0 0 A := by
  refine Met.ofW (cc := cX10_limit) (maxL := 6) (ret := (some .int)) (by decide) rfl ?_
  intro p e s m args below meth c s₁ B hml hv
  obtain ⟨rfl, hP, hK, hD, hT, hG⟩ := hv
  have hx := B.exec
  have hb := B.bytes
  have hr := B.returns
  have hts := atoms_spec (ws := wsX10_limit) B.pre
  have hown : s.vm.findClass RX10 = some m.cls := findClass_of_methodNamed B.named
  have hlocks := B.notSynchronized
  have hS : va_S A s.heap s.heap [] := va_S.rf
  have hl := lv_entry ([.ref (ad a0), .ref (ad a1), .int x2]) (n := 6) (Nat.le_of_ble_eq_true rfl)
  rw [lg_entry_eq]
  generalize (lg_sl ([.ref (ad a0), .ref (ad a1), .int x2]) ++ List.replicate (6 - (lg_sl ([.ref (ad a0), .ref (ad a1), .int x2])).length) Slot.unset).toArray = ls at hl ⊢
  have hl : lv_has ls 6 [(0, .ref (ad a0)), (1, .ref (ad a1)), (2, .int x2)] := hl
  unfold f_X10_limit at h
  refine lv_iload_n hx hb dX10_limit_0 rfl (lv_at hl 2 rfl) ?_
  refine lv_if_eq (tgt := 8) hx hb dX10_limit_1 rfl (fun c1 => ?_) (fun c1 => ?_)
  · replace h := ite_t c1 h
    refine lv_iconst (v := (-1)) hx hb dX10_limit_8 rfl ?_
    refine lv_istore_n (lv' := [(3, .int (-1)), (0, .ref (ad a0)), (1, .ref (ad a1)), (2, .int x2)]) hx hb dX10_limit_9 rfl hl (by decide) rfl (fun ls hl => ?_)
    refine lv_iconst (v := 0) hx hb dX10_limit_10 rfl ?_
    refine lv_istore (lv' := [(4, .int 0), (3, .int (-1)), (0, .ref (ad a0)), (1, .ref (ad a1)), (2, .int x2)]) hx hb dX10_limit_11 hl (by decide) rfl (fun ls hl => ?_)
    have L2 : ∀ n2 : Nat, ∀ (y2_0 : Nat) (y2_1 : Nat) (y2_3 : Int32) (y2_4 : Int32) (ky2_0 : ok g y2_0 10 0) (ky2_1 : ok g y2_1 5 0) (H : Heap) (locs : List Loc), f_X10_limit_L13 n2 M y2_0 y2_1 y2_3 y2_4 = some Z → va_P D vwCl (wd ad cy g M) H → va_D A (wd ad cy g M) → WT g M → va_S A s.heap H locs → ∀ (ls : Array Slot), lv_has ls 6 [(0, .ref (ad y2_0)), (1, .ref (ad y2_1)), (3, .int y2_3), (4, .int y2_4)] → W p l e ((headSpec wsX10_limit ({ frames := 1, cells := 0, slots := 0, locals := 22 })).room) s m (([.ref (ad a0), .ref (ad a1), .int x2] : List Value).toArray) below meth c H locs 0 0 (MQ below (va_Qi (fun r u => r = Z ∧ u = M) (Wd D ad cy A g q) A) ([.ref (ad a0), .ref (ad a1), .int x2]).toArray s 0 0 A) (F0 m 13 ls []) := by
      intro n2
      induction n2 with
      | zero => intro y2_0 y2_1 y2_3 y2_4 ky2_0 ky2_1 H locs h; exact absurd h (by simp [f_X10_limit_L13])
      | succ n2 ih2 =>
        intro y2_0 y2_1 y2_3 y2_4 ky2_0 ky2_1 H locs h hP hD hT hS ls hl
        rw [f_X10_limit_L13] at h
        refine lv_iload hx hb dX10_limit_13 (lv_at hl 3 rfl) ?_
        refine lv_bipush (v := 40) hx hb dX10_limit_15 rfl ?_
        refine lv_icmp_gt (tgt := 48) hx hb dX10_limit_17 rfl (fun c3 => ?_) (fun c3 => ?_)
        · replace h := ite_t c3 h
          refine lv_bipush (v := (-100)) hx hb dX10_limit_48 rfl ?_
          exact r_iret hx hb hr hlocks hP hK hD hT hG hS (Option.some.inj h) rfl dX10_limit_50
        · replace h := ite_f c3 h
          refine lv_iload_n hx hb dX10_limit_20 rfl (lv_at hl 2 rfl) ?_
          refine lv_iload hx hb dX10_limit_21 (lv_at hl 3 rfl) ?_
          refine lv_bipush (v := 20) hx hb dX10_limit_23 rfl ?_
          refine lv_isub hx hb dX10_limit_25 ?_
          refine lv_imul hx hb dX10_limit_26 ?_
          refine lv_istore (lv' := [(5, .int (y2_3 * (y2_4 - 20))), (0, .ref (ad y2_0)), (1, .ref (ad y2_1)), (3, .int y2_3), (4, .int y2_4)]) hx hb dX10_limit_27 hl (by decide) rfl (fun ls hl => ?_)
          refine lv_aload_n hx hb dX10_limit_29 rfl (lv_at hl 1 rfl) ?_
          refine lv_aload_n hx hb dX10_limit_30 rfl (lv_at hl 2 rfl) ?_
          refine lv_iload hx hb dX10_limit_31 (lv_at hl 0 rfl) ?_
          obtain ⟨z4, h4, h⟩ := ob_some h
          refine k_z (va_runV (As := [.ref (ad y2_1), .int (y2_3 * (y2_4 - 20))]) (rest := []) ⟨hx, hb, hml, hown, hts⟩ (c_X10_carries (l := l) M y2_0 y2_1 (y2_3 * (y2_4 - 20)) ky2_0 ky2_1 h4) (cwV 2 hts gX10_limit_X10_carries rfl rfl rfl hdV_X10_carries ⟨Nat.le_of_ble_eq_true rfl, Nat.le_of_ble_eq_true rfl⟩) (pV (T := TX10) hP hK hD hT hG hS ky2_0 (by decide) rfl) rfl rfl hl.1 rfl (lv_room (Nat.le_of_ble_eq_true rfl)) dX10_limit_33 ⟨Nat.zero_le _, Nat.zero_le _⟩) hS (fun H locs hz4 hP hD hT hS => ?_)
          refine lv_if_eq (tgt := 42) hx hb dX10_limit_36 rfl (fun c5 => ?_) (fun c5 => ?_)
          · replace h := ite_t c5 h
            refine lv_iinc (v := y2_4 + 1) (lv' := [(4, .int (y2_4 + 1)), (5, .int (y2_3 * (y2_4 - 20))), (0, .ref (ad y2_0)), (1, .ref (ad y2_1)), (3, .int y2_3)]) hx hb dX10_limit_42 hl (k := 4) rfl rfl (by decide) rfl (fun ls hl => ?_)
            refine lv_goto (tgt := 13) hx hb dX10_limit_45 rfl ?_
            exact ih2 y2_0 y2_1 y2_3 (y2_4 + 1) ky2_0 ky2_1 _ _ h hP hD hT hS ls (lv_sub hl [2, 3, 4, 0] rfl)
          · replace h := ite_f c5 h
            refine lv_iload hx hb dX10_limit_39 (lv_at hl 0 rfl) ?_
            exact r_iret hx hb hr hlocks hP hK hD hT hG hS (Option.some.inj h) rfl dX10_limit_41
    exact L2 FU a0 a1 (-1) 0 k0 k1 _ _ h hP hD hT hS ls (lv_sub hl [2, 3, 1, 0] rfl)
  · replace h := ite_f c1 h
    refine lv_iconst (v := 1) hx hb dX10_limit_4 rfl ?_
    refine lv_goto (tgt := 9) hx hb dX10_limit_5 rfl ?_
    refine lv_istore_n (lv' := [(3, .int 1), (0, .ref (ad a0)), (1, .ref (ad a1)), (2, .int x2)]) hx hb dX10_limit_9 rfl hl (by decide) rfl (fun ls hl => ?_)
    refine lv_iconst (v := 0) hx hb dX10_limit_10 rfl ?_
    refine lv_istore (lv' := [(4, .int 0), (3, .int 1), (0, .ref (ad a0)), (1, .ref (ad a1)), (2, .int x2)]) hx hb dX10_limit_11 hl (by decide) rfl (fun ls hl => ?_)
    have L6 : ∀ n6 : Nat, ∀ (y6_0 : Nat) (y6_1 : Nat) (y6_3 : Int32) (y6_4 : Int32) (ky6_0 : ok g y6_0 10 0) (ky6_1 : ok g y6_1 5 0) (H : Heap) (locs : List Loc), f_X10_limit_L13_1 n6 M y6_0 y6_1 y6_3 y6_4 = some Z → va_P D vwCl (wd ad cy g M) H → va_D A (wd ad cy g M) → WT g M → va_S A s.heap H locs → ∀ (ls : Array Slot), lv_has ls 6 [(0, .ref (ad y6_0)), (1, .ref (ad y6_1)), (3, .int y6_3), (4, .int y6_4)] → W p l e ((headSpec wsX10_limit ({ frames := 1, cells := 0, slots := 0, locals := 22 })).room) s m (([.ref (ad a0), .ref (ad a1), .int x2] : List Value).toArray) below meth c H locs 0 0 (MQ below (va_Qi (fun r u => r = Z ∧ u = M) (Wd D ad cy A g q) A) ([.ref (ad a0), .ref (ad a1), .int x2]).toArray s 0 0 A) (F0 m 13 ls []) := by
      intro n6
      induction n6 with
      | zero => intro y6_0 y6_1 y6_3 y6_4 ky6_0 ky6_1 H locs h; exact absurd h (by simp [f_X10_limit_L13_1])
      | succ n6 ih6 =>
        intro y6_0 y6_1 y6_3 y6_4 ky6_0 ky6_1 H locs h hP hD hT hS ls hl
        rw [f_X10_limit_L13_1] at h
        refine lv_iload hx hb dX10_limit_13 (lv_at hl 3 rfl) ?_
        refine lv_bipush (v := 40) hx hb dX10_limit_15 rfl ?_
        refine lv_icmp_gt (tgt := 48) hx hb dX10_limit_17 rfl (fun c7 => ?_) (fun c7 => ?_)
        · replace h := ite_t c7 h
          refine lv_bipush (v := (-100)) hx hb dX10_limit_48 rfl ?_
          exact r_iret hx hb hr hlocks hP hK hD hT hG hS (Option.some.inj h) rfl dX10_limit_50
        · replace h := ite_f c7 h
          refine lv_iload_n hx hb dX10_limit_20 rfl (lv_at hl 2 rfl) ?_
          refine lv_iload hx hb dX10_limit_21 (lv_at hl 3 rfl) ?_
          refine lv_bipush (v := 20) hx hb dX10_limit_23 rfl ?_
          refine lv_isub hx hb dX10_limit_25 ?_
          refine lv_imul hx hb dX10_limit_26 ?_
          refine lv_istore (lv' := [(5, .int (y6_3 * (y6_4 - 20))), (0, .ref (ad y6_0)), (1, .ref (ad y6_1)), (3, .int y6_3), (4, .int y6_4)]) hx hb dX10_limit_27 hl (by decide) rfl (fun ls hl => ?_)
          refine lv_aload_n hx hb dX10_limit_29 rfl (lv_at hl 1 rfl) ?_
          refine lv_aload_n hx hb dX10_limit_30 rfl (lv_at hl 2 rfl) ?_
          refine lv_iload hx hb dX10_limit_31 (lv_at hl 0 rfl) ?_
          obtain ⟨z8, h8, h⟩ := ob_some h
          refine k_z (va_runV (As := [.ref (ad y6_1), .int (y6_3 * (y6_4 - 20))]) (rest := []) ⟨hx, hb, hml, hown, hts⟩ (c_X10_carries (l := l) M y6_0 y6_1 (y6_3 * (y6_4 - 20)) ky6_0 ky6_1 h8) (cwV 2 hts gX10_limit_X10_carries rfl rfl rfl hdV_X10_carries ⟨Nat.le_of_ble_eq_true rfl, Nat.le_of_ble_eq_true rfl⟩) (pV (T := TX10) hP hK hD hT hG hS ky6_0 (by decide) rfl) rfl rfl hl.1 rfl (lv_room (Nat.le_of_ble_eq_true rfl)) dX10_limit_33 ⟨Nat.zero_le _, Nat.zero_le _⟩) hS (fun H locs hz8 hP hD hT hS => ?_)
          refine lv_if_eq (tgt := 42) hx hb dX10_limit_36 rfl (fun c9 => ?_) (fun c9 => ?_)
          · replace h := ite_t c9 h
            refine lv_iinc (v := y6_4 + 1) (lv' := [(4, .int (y6_4 + 1)), (5, .int (y6_3 * (y6_4 - 20))), (0, .ref (ad y6_0)), (1, .ref (ad y6_1)), (3, .int y6_3)]) hx hb dX10_limit_42 hl (k := 4) rfl rfl (by decide) rfl (fun ls hl => ?_)
            refine lv_goto (tgt := 13) hx hb dX10_limit_45 rfl ?_
            exact ih6 y6_0 y6_1 y6_3 (y6_4 + 1) ky6_0 ky6_1 _ _ h hP hD hT hS ls (lv_sub hl [2, 3, 4, 0] rfl)
          · replace h := ite_f c9 h
            refine lv_iload hx hb dX10_limit_39 (lv_at hl 0 rfl) ?_
            exact r_iret hx hb hr hlocks hP hK hD hT hG hS (Option.some.inj h) rfl dX10_limit_41
    exact L6 FU a0 a1 1 0 k0 k1 _ _ h hP hD hT hS ls (lv_sub hl [2, 3, 1, 0] rfl)
