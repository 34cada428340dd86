theorem cS_ne {C : mT} {k j q : Nat} {x : Int32} (h : q ≠ k) : cS C k j x q = C q := by
  unfold cS
  cases h2 : Nat.beq q k with
  | true => exact absurd (Nat.eq_of_beq_eq_true h2) h
  | false => rfl
theorem cS_at {C : mT} {k j : Nat} {x : Int32} : cS C k j x k = upd (C k) j x := by simp [cS]
theorem hdX0_reset : yX0_reset.cls = RX0 ∧ yX0_reset.cls ≠ "java/lang/invoke/MethodHandle" ∧ yX0_reset.cls ≠ "java/lang/invoke/VarHandle" ∧ (parseMethodDescriptor yX0_reset.desc).map (fun d => d.parameters.length) = some 0 := by decide +kernel
theorem hdX0_putAtFoot : yX0_putAtFoot.cls = RX0 ∧ yX0_putAtFoot.cls ≠ "java/lang/invoke/MethodHandle" ∧ yX0_putAtFoot.cls ≠ "java/lang/invoke/VarHandle" ∧ (parseMethodDescriptor yX0_putAtFoot.desc).map (fun d => d.parameters.length) = some 1 := by decide +kernel
theorem hdX0_takeStarts : yX0_takeStarts.cls = RX0 ∧ yX0_takeStarts.cls ≠ "java/lang/invoke/MethodHandle" ∧ yX0_takeStarts.cls ≠ "java/lang/invoke/VarHandle" ∧ (parseMethodDescriptor yX0_takeStarts.desc).map (fun d => d.parameters.length) = some 0 := by decide +kernel
theorem hdX0_tryOut : yX0_tryOut.cls = RX0 ∧ yX0_tryOut.cls ≠ "java/lang/invoke/MethodHandle" ∧ yX0_tryOut.cls ≠ "java/lang/invoke/VarHandle" ∧ (parseMethodDescriptor yX0_tryOut.desc).map (fun d => d.parameters.length) = some 0 := by decide +kernel
theorem hdX0_isOver : yX0_isOver.cls = RX0 ∧ yX0_isOver.cls ≠ "java/lang/invoke/MethodHandle" ∧ yX0_isOver.cls ≠ "java/lang/invoke/VarHandle" ∧ (parseMethodDescriptor yX0_isOver.desc).map (fun d => d.parameters.length) = some 0 := by decide +kernel
theorem hdX0_passHour : yX0_passHour.cls = RX0 ∧ yX0_passHour.cls ≠ "java/lang/invoke/MethodHandle" ∧ yX0_passHour.cls ≠ "java/lang/invoke/VarHandle" ∧ (parseMethodDescriptor yX0_passHour.desc).map (fun d => d.parameters.length) = some 0 := by decide +kernel
theorem hdX0_goOn : yX0_goOn.cls = RX0 ∧ yX0_goOn.cls ≠ "java/lang/invoke/MethodHandle" ∧ yX0_goOn.cls ≠ "java/lang/invoke/VarHandle" ∧ (parseMethodDescriptor yX0_goOn.desc).map (fun d => d.parameters.length) = some 1 := by decide +kernel
theorem hdX0_decide : yX0_decide.cls = RX0 ∧ yX0_decide.cls ≠ "java/lang/invoke/MethodHandle" ∧ yX0_decide.cls ≠ "java/lang/invoke/VarHandle" ∧ (parseMethodDescriptor yX0_decide.desc).map (fun d => d.parameters.length) = some 1 := by decide +kernel
theorem hdX0_turnsBack : yX0_turnsBack.cls = RX0 ∧ yX0_turnsBack.cls ≠ "java/lang/invoke/MethodHandle" ∧ yX0_turnsBack.cls ≠ "java/lang/invoke/VarHandle" ∧ (parseMethodDescriptor yX0_turnsBack.desc).map (fun d => d.parameters.length) = some 1 := by decide +kernel
theorem hdX0_beginPitches : yX0_beginPitches.cls = RX0 ∧ yX0_beginPitches.cls ≠ "java/lang/invoke/MethodHandle" ∧ yX0_beginPitches.cls ≠ "java/lang/invoke/VarHandle" ∧ (parseMethodDescriptor yX0_beginPitches.desc).map (fun d => d.parameters.length) = some 0 := by decide +kernel
theorem hdX0_pitchWanted : yX0_pitchWanted.cls = RX0 ∧ yX0_pitchWanted.cls ≠ "java/lang/invoke/MethodHandle" ∧ yX0_pitchWanted.cls ≠ "java/lang/invoke/VarHandle" ∧ (parseMethodDescriptor yX0_pitchWanted.desc).map (fun d => d.parameters.length) = some 1 := by decide +kernel
theorem hdX0_letBegin : yX0_letBegin.cls = RX0 ∧ yX0_letBegin.cls ≠ "java/lang/invoke/MethodHandle" ∧ yX0_letBegin.cls ≠ "java/lang/invoke/VarHandle" ∧ (parseMethodDescriptor yX0_letBegin.desc).map (fun d => d.parameters.length) = some 1 := by decide +kernel
theorem hdX0_firstInLine : yX0_firstInLine.cls = RX0 ∧ yX0_firstInLine.cls ≠ "java/lang/invoke/MethodHandle" ∧ yX0_firstInLine.cls ≠ "java/lang/invoke/VarHandle" ∧ (parseMethodDescriptor yX0_firstInLine.desc).map (fun d => d.parameters.length) = some 1 := by decide +kernel
theorem hdX0_hoursFor : yX0_hoursFor.cls = RX0 ∧ yX0_hoursFor.cls ≠ "java/lang/invoke/MethodHandle" ∧ yX0_hoursFor.cls ≠ "java/lang/invoke/VarHandle" ∧ (parseMethodDescriptor yX0_hoursFor.desc).map (fun d => d.parameters.length) = some 3 := by decide +kernel
theorem hdX0_breathe : yX0_breathe.cls = RX0 ∧ yX0_breathe.cls ≠ "java/lang/invoke/MethodHandle" ∧ yX0_breathe.cls ≠ "java/lang/invoke/VarHandle" ∧ (parseMethodDescriptor yX0_breathe.desc).map (fun d => d.parameters.length) = some 1 := by decide +kernel
theorem hdX0_pitchUnder : yX0_pitchUnder.cls = RX0 ∧ yX0_pitchUnder.cls ≠ "java/lang/invoke/MethodHandle" ∧ yX0_pitchUnder.cls ≠ "java/lang/invoke/VarHandle" ∧ (parseMethodDescriptor yX0_pitchUnder.desc).map (fun d => d.parameters.length) = some 1 := by decide +kernel
theorem hdX0_summits : yX0_summits.cls = RX0 ∧ yX0_summits.cls ≠ "java/lang/invoke/MethodHandle" ∧ yX0_summits.cls ≠ "java/lang/invoke/VarHandle" ∧ (parseMethodDescriptor yX0_summits.desc).map (fun d => d.parameters.length) = some 0 := by decide +kernel
theorem hdX0_inState : yX0_inState.cls = RX0 ∧ yX0_inState.cls ≠ "java/lang/invoke/MethodHandle" ∧ yX0_inState.cls ≠ "java/lang/invoke/VarHandle" ∧ (parseMethodDescriptor yX0_inState.desc).map (fun d => d.parameters.length) = some 1 := by decide +kernel
theorem hdX0_allWaits : yX0_allWaits.cls = RX0 ∧ yX0_allWaits.cls ≠ "java/lang/invoke/MethodHandle" ∧ yX0_allWaits.cls ≠ "java/lang/invoke/VarHandle" ∧ (parseMethodDescriptor yX0_allWaits.desc).map (fun d => d.parameters.length) = some 0 := by decide +kernel
theorem hdX0_howManyOn : yX0_howManyOn.cls = RX0 ∧ yX0_howManyOn.cls ≠ "java/lang/invoke/MethodHandle" ∧ yX0_howManyOn.cls ≠ "java/lang/invoke/VarHandle" ∧ (parseMethodDescriptor yX0_howManyOn.desc).map (fun d => d.parameters.length) = some 1 := by decide +kernel
theorem hdX0_howManyAt : yX0_howManyAt.cls = RX0 ∧ yX0_howManyAt.cls ≠ "java/lang/invoke/MethodHandle" ∧ yX0_howManyAt.cls ≠ "java/lang/invoke/VarHandle" ∧ (parseMethodDescriptor yX0_howManyAt.desc).map (fun d => d.parameters.length) = some 1 := by decide +kernel
theorem hdX0_fetcherTo : yX0_fetcherTo.cls = RX0 ∧ yX0_fetcherTo.cls ≠ "java/lang/invoke/MethodHandle" ∧ yX0_fetcherTo.cls ≠ "java/lang/invoke/VarHandle" ∧ (parseMethodDescriptor yX0_fetcherTo.desc).map (fun d => d.parameters.length) = some 1 := by decide +kernel
theorem hdX0_couldReach : yX0_couldReach.cls = RX0 ∧ yX0_couldReach.cls ≠ "java/lang/invoke/MethodHandle" ∧ yX0_couldReach.cls ≠ "java/lang/invoke/VarHandle" ∧ (parseMethodDescriptor yX0_couldReach.desc).map (fun d => d.parameters.length) = some 2 := by decide +kernel
theorem hdX0_hoursTo : yX0_hoursTo.cls = RX0 ∧ yX0_hoursTo.cls ≠ "java/lang/invoke/MethodHandle" ∧ yX0_hoursTo.cls ≠ "java/lang/invoke/VarHandle" ∧ (parseMethodDescriptor yX0_hoursTo.desc).map (fun d => d.parameters.length) = some 3 := by decide +kernel
theorem hdX1_has : yX1_has.cls = RX1 ∧ yX1_has.cls ≠ "java/lang/invoke/MethodHandle" ∧ yX1_has.cls ≠ "java/lang/invoke/VarHandle" ∧ (parseMethodDescriptor yX1_has.desc).map (fun d => d.parameters.length) = some 1 := by decide +kernel
theorem hdX1_hasAnyOf : yX1_hasAnyOf.cls = RX1 ∧ yX1_hasAnyOf.cls ≠ "java/lang/invoke/MethodHandle" ∧ yX1_hasAnyOf.cls ≠ "java/lang/invoke/VarHandle" ∧ (parseMethodDescriptor yX1_hasAnyOf.desc).map (fun d => d.parameters.length) = some 1 := by decide +kernel
theorem hdX1_join : yX1_join.cls = RX1 ∧ yX1_join.cls ≠ "java/lang/invoke/MethodHandle" ∧ yX1_join.cls ≠ "java/lang/invoke/VarHandle" ∧ (parseMethodDescriptor yX1_join.desc).map (fun d => d.parameters.length) = some 3 := by decide +kernel
theorem hdX2_layAnew : yX2_layAnew.cls = RX2 ∧ yX2_layAnew.cls ≠ "java/lang/invoke/MethodHandle" ∧ yX2_layAnew.cls ≠ "java/lang/invoke/VarHandle" ∧ (parseMethodDescriptor yX2_layAnew.desc).map (fun d => d.parameters.length) = some 1 := by decide +kernel
theorem hdX2_hasPitch : yX2_hasPitch.cls = RX2 ∧ yX2_hasPitch.cls ≠ "java/lang/invoke/MethodHandle" ∧ yX2_hasPitch.cls ≠ "java/lang/invoke/VarHandle" ∧ (parseMethodDescriptor yX2_hasPitch.desc).map (fun d => d.parameters.length) = some 1 := by decide +kernel
theorem hdX2_hasCamp : yX2_hasCamp.cls = RX2 ∧ yX2_hasCamp.cls ≠ "java/lang/invoke/MethodHandle" ∧ yX2_hasCamp.cls ≠ "java/lang/invoke/VarHandle" ∧ (parseMethodDescriptor yX2_hasCamp.desc).map (fun d => d.parameters.length) = some 1 := by decide +kernel
theorem hdX2_isWindy : yX2_isWindy.cls = RX2 ∧ yX2_isWindy.cls ≠ "java/lang/invoke/MethodHandle" ∧ yX2_isWindy.cls ≠ "java/lang/invoke/VarHandle" ∧ (parseMethodDescriptor yX2_isWindy.desc).map (fun d => d.parameters.length) = some 1 := by decide +kernel
theorem hdX3_mountain : yX3_mountain.cls = RX3 ∧ yX3_mountain.cls ≠ "java/lang/invoke/MethodHandle" ∧ yX3_mountain.cls ≠ "java/lang/invoke/VarHandle" ∧ (parseMethodDescriptor yX3_mountain.desc).map (fun d => d.parameters.length) = some 1 := by decide +kernel
theorem hdX3_pitch : yX3_pitch.cls = RX3 ∧ yX3_pitch.cls ≠ "java/lang/invoke/MethodHandle" ∧ yX3_pitch.cls ≠ "java/lang/invoke/VarHandle" ∧ (parseMethodDescriptor yX3_pitch.desc).map (fun d => d.parameters.length) = some 3 := by decide +kernel
theorem hdX3_high : yX3_high.cls = RX3 ∧ yX3_high.cls ≠ "java/lang/invoke/MethodHandle" ∧ yX3_high.cls ≠ "java/lang/invoke/VarHandle" ∧ (parseMethodDescriptor yX3_high.desc).map (fun d => d.parameters.length) = some 1 := by decide +kernel
theorem hdX3_wind : yX3_wind.cls = RX3 ∧ yX3_wind.cls ≠ "java/lang/invoke/MethodHandle" ∧ yX3_wind.cls ≠ "java/lang/invoke/VarHandle" ∧ (parseMethodDescriptor yX3_wind.desc).map (fun d => d.parameters.length) = some 3 := by decide +kernel
theorem hdX3_climber : yX3_climber.cls = RX3 ∧ yX3_climber.cls ≠ "java/lang/invoke/MethodHandle" ∧ yX3_climber.cls ≠ "java/lang/invoke/VarHandle" ∧ (parseMethodDescriptor yX3_climber.desc).map (fun d => d.parameters.length) = some 3 := by decide +kernel
theorem hdX3_team : yX3_team.cls = RX3 ∧ yX3_team.cls ≠ "java/lang/invoke/MethodHandle" ∧ yX3_team.cls ≠ "java/lang/invoke/VarHandle" ∧ (parseMethodDescriptor yX3_team.desc).map (fun d => d.parameters.length) = some 3 := by decide +kernel
theorem hdX3_begin : yX3_begin.cls = RX3 ∧ yX3_begin.cls ≠ "java/lang/invoke/MethodHandle" ∧ yX3_begin.cls ≠ "java/lang/invoke/VarHandle" ∧ (parseMethodDescriptor yX3_begin.desc).map (fun d => d.parameters.length) = some 0 := by decide +kernel
theorem hdX3_run : yX3_run.cls = RX3 ∧ yX3_run.cls ≠ "java/lang/invoke/MethodHandle" ∧ yX3_run.cls ≠ "java/lang/invoke/VarHandle" ∧ (parseMethodDescriptor yX3_run.desc).map (fun d => d.parameters.length) = some 1 := by decide +kernel
theorem hdX3_count : yX3_count.cls = RX3 ∧ yX3_count.cls ≠ "java/lang/invoke/MethodHandle" ∧ yX3_count.cls ≠ "java/lang/invoke/VarHandle" ∧ (parseMethodDescriptor yX3_count.desc).map (fun d => d.parameters.length) = some 1 := by decide +kernel
theorem hdX3_of : yX3_of.cls = RX3 ∧ yX3_of.cls ≠ "java/lang/invoke/MethodHandle" ∧ yX3_of.cls ≠ "java/lang/invoke/VarHandle" ∧ (parseMethodDescriptor yX3_of.desc).map (fun d => d.parameters.length) = some 2 := by decide +kernel
theorem hdX3_on : yX3_on.cls = RX3 ∧ yX3_on.cls ≠ "java/lang/invoke/MethodHandle" ∧ yX3_on.cls ≠ "java/lang/invoke/VarHandle" ∧ (parseMethodDescriptor yX3_on.desc).map (fun d => d.parameters.length) = some 1 := by decide +kernel
theorem hdX3_at : yX3_at.cls = RX3 ∧ yX3_at.cls ≠ "java/lang/invoke/MethodHandle" ∧ yX3_at.cls ≠ "java/lang/invoke/VarHandle" ∧ (parseMethodDescriptor yX3_at.desc).map (fun d => d.parameters.length) = some 1 := by decide +kernel
theorem hdX3_fetch : yX3_fetch.cls = RX3 ∧ yX3_fetch.cls ≠ "java/lang/invoke/MethodHandle" ∧ yX3_fetch.cls ≠ "java/lang/invoke/VarHandle" ∧ (parseMethodDescriptor yX3_fetch.desc).map (fun d => d.parameters.length) = some 1 := by decide +kernel
theorem hdX3_tries : yX3_tries.cls = RX3 ∧ yX3_tries.cls ≠ "java/lang/invoke/MethodHandle" ∧ yX3_tries.cls ≠ "java/lang/invoke/VarHandle" ∧ (parseMethodDescriptor yX3_tries.desc).map (fun d => d.parameters.length) = some 5 := by decide +kernel
theorem hdX3_plan : yX3_plan.cls = RX3 ∧ yX3_plan.cls ≠ "java/lang/invoke/MethodHandle" ∧ yX3_plan.cls ≠ "java/lang/invoke/VarHandle" ∧ (parseMethodDescriptor yX3_plan.desc).map (fun d => d.parameters.length) = some 1 := by decide +kernel
theorem hdX3_need : yX3_need.cls = RX3 ∧ yX3_need.cls ≠ "java/lang/invoke/MethodHandle" ∧ yX3_need.cls ≠ "java/lang/invoke/VarHandle" ∧ (parseMethodDescriptor yX3_need.desc).map (fun d => d.parameters.length) = some 2 := by decide +kernel
theorem hdX3_comes : yX3_comes.cls = RX3 ∧ yX3_comes.cls ≠ "java/lang/invoke/MethodHandle" ∧ yX3_comes.cls ≠ "java/lang/invoke/VarHandle" ∧ (parseMethodDescriptor yX3_comes.desc).map (fun d => d.parameters.length) = some 2 := by decide +kernel
theorem hdX3_isWithin : yX3_isWithin.cls = RX3 ∧ yX3_isWithin.cls ≠ "java/lang/invoke/MethodHandle" ∧ yX3_isWithin.cls ≠ "java/lang/invoke/VarHandle" ∧ (parseMethodDescriptor yX3_isWithin.desc).map (fun d => d.parameters.length) = some 3 := by decide +kernel
theorem hdX3_areTriable : yX3_areTriable.cls = RX3 ∧ yX3_areTriable.cls ≠ "java/lang/invoke/MethodHandle" ∧ yX3_areTriable.cls ≠ "java/lang/invoke/VarHandle" ∧ (parseMethodDescriptor yX3_areTriable.desc).map (fun d => d.parameters.length) = some 4 := by decide +kernel
theorem hdX3_bestPlan : yX3_bestPlan.cls = RX3 ∧ yX3_bestPlan.cls ≠ "java/lang/invoke/MethodHandle" ∧ yX3_bestPlan.cls ≠ "java/lang/invoke/VarHandle" ∧ (parseMethodDescriptor yX3_bestPlan.desc).map (fun d => d.parameters.length) = some 1 := by decide +kernel
theorem hdX3_readPlan : yX3_readPlan.cls = RX3 ∧ yX3_readPlan.cls ≠ "java/lang/invoke/MethodHandle" ∧ yX3_readPlan.cls ≠ "java/lang/invoke/VarHandle" ∧ (parseMethodDescriptor yX3_readPlan.desc).map (fun d => d.parameters.length) = some 2 := by decide +kernel
theorem hdX3_merit : yX3_merit.cls = RX3 ∧ yX3_merit.cls ≠ "java/lang/invoke/MethodHandle" ∧ yX3_merit.cls ≠ "java/lang/invoke/VarHandle" ∧ (parseMethodDescriptor yX3_merit.desc).map (fun d => d.parameters.length) = some 3 := by decide +kernel
theorem hdX4_thrown : yX4_thrown.cls = RX4 ∧ yX4_thrown.cls ≠ "java/lang/invoke/MethodHandle" ∧ yX4_thrown.cls ≠ "java/lang/invoke/VarHandle" ∧ (parseMethodDescriptor yX4_thrown.desc).map (fun d => d.parameters.length) = some 0 := by decide +kernel
theorem hdX4_in : yX4_in.cls = RX4 ∧ yX4_in.cls ≠ "java/lang/invoke/MethodHandle" ∧ yX4_in.cls ≠ "java/lang/invoke/VarHandle" ∧ (parseMethodDescriptor yX4_in.desc).map (fun d => d.parameters.length) = some 3 := by decide +kernel
theorem hdX4_levelAll : yX4_levelAll.cls = RX4 ∧ yX4_levelAll.cls ≠ "java/lang/invoke/MethodHandle" ∧ yX4_levelAll.cls ≠ "java/lang/invoke/VarHandle" ∧ (parseMethodDescriptor yX4_levelAll.desc).map (fun d => d.parameters.length) = some 0 := by decide +kernel
theorem hdX4_get : yX4_get.cls = RX4 ∧ yX4_get.cls ≠ "java/lang/invoke/MethodHandle" ∧ yX4_get.cls ≠ "java/lang/invoke/VarHandle" ∧ (parseMethodDescriptor yX4_get.desc).map (fun d => d.parameters.length) = some 2 := by decide +kernel
theorem hdX4_put : yX4_put.cls = RX4 ∧ yX4_put.cls ≠ "java/lang/invoke/MethodHandle" ∧ yX4_put.cls ≠ "java/lang/invoke/VarHandle" ∧ (parseMethodDescriptor yX4_put.desc).map (fun d => d.parameters.length) = some 3 := by decide +kernel
theorem hdX4_lay : yX4_lay.cls = RX4 ∧ yX4_lay.cls ≠ "java/lang/invoke/MethodHandle" ∧ yX4_lay.cls ≠ "java/lang/invoke/VarHandle" ∧ (parseMethodDescriptor yX4_lay.desc).map (fun d => d.parameters.length) = some 2 := by decide +kernel
theorem hdX4_beginAll : yX4_beginAll.cls = RX4 ∧ yX4_beginAll.cls ≠ "java/lang/invoke/MethodHandle" ∧ yX4_beginAll.cls ≠ "java/lang/invoke/VarHandle" ∧ (parseMethodDescriptor yX4_beginAll.desc).map (fun d => d.parameters.length) = some 0 := by decide +kernel
theorem hdX4_mountain : yX4_mountain.cls = RX4 ∧ yX4_mountain.cls ≠ "java/lang/invoke/MethodHandle" ∧ yX4_mountain.cls ≠ "java/lang/invoke/VarHandle" ∧ (parseMethodDescriptor yX4_mountain.desc).map (fun d => d.parameters.length) = some 1 := by decide +kernel
theorem hdX4_isPitch : yX4_isPitch.cls = RX4 ∧ yX4_isPitch.cls ≠ "java/lang/invoke/MethodHandle" ∧ yX4_isPitch.cls ≠ "java/lang/invoke/VarHandle" ∧ (parseMethodDescriptor yX4_isPitch.desc).map (fun d => d.parameters.length) = some 1 := by decide +kernel
theorem hdX4_pitch : yX4_pitch.cls = RX4 ∧ yX4_pitch.cls ≠ "java/lang/invoke/MethodHandle" ∧ yX4_pitch.cls ≠ "java/lang/invoke/VarHandle" ∧ (parseMethodDescriptor yX4_pitch.desc).map (fun d => d.parameters.length) = some 3 := by decide +kernel
theorem hdX4_high : yX4_high.cls = RX4 ∧ yX4_high.cls ≠ "java/lang/invoke/MethodHandle" ∧ yX4_high.cls ≠ "java/lang/invoke/VarHandle" ∧ (parseMethodDescriptor yX4_high.desc).map (fun d => d.parameters.length) = some 1 := by decide +kernel
theorem hdX4_wind : yX4_wind.cls = RX4 ∧ yX4_wind.cls ≠ "java/lang/invoke/MethodHandle" ∧ yX4_wind.cls ≠ "java/lang/invoke/VarHandle" ∧ (parseMethodDescriptor yX4_wind.desc).map (fun d => d.parameters.length) = some 3 := by decide +kernel
theorem hdX4_climber : yX4_climber.cls = RX4 ∧ yX4_climber.cls ≠ "java/lang/invoke/MethodHandle" ∧ yX4_climber.cls ≠ "java/lang/invoke/VarHandle" ∧ (parseMethodDescriptor yX4_climber.desc).map (fun d => d.parameters.length) = some 3 := by decide +kernel
theorem hdX4_team : yX4_team.cls = RX4 ∧ yX4_team.cls ≠ "java/lang/invoke/MethodHandle" ∧ yX4_team.cls ≠ "java/lang/invoke/VarHandle" ∧ (parseMethodDescriptor yX4_team.desc).map (fun d => d.parameters.length) = some 3 := by decide +kernel
theorem hdX4_begin : yX4_begin.cls = RX4 ∧ yX4_begin.cls ≠ "java/lang/invoke/MethodHandle" ∧ yX4_begin.cls ≠ "java/lang/invoke/VarHandle" ∧ (parseMethodDescriptor yX4_begin.desc).map (fun d => d.parameters.length) = some 0 := by decide +kernel
theorem hdX4_isAtCamp : yX4_isAtCamp.cls = RX4 ∧ yX4_isAtCamp.cls ≠ "java/lang/invoke/MethodHandle" ∧ yX4_isAtCamp.cls ≠ "java/lang/invoke/VarHandle" ∧ (parseMethodDescriptor yX4_isAtCamp.desc).map (fun d => d.parameters.length) = some 1 := by decide +kernel
theorem hdX4_isWeak : yX4_isWeak.cls = RX4 ∧ yX4_isWeak.cls ≠ "java/lang/invoke/MethodHandle" ∧ yX4_isWeak.cls ≠ "java/lang/invoke/VarHandle" ∧ (parseMethodDescriptor yX4_isWeak.desc).map (fun d => d.parameters.length) = some 1 := by decide +kernel
theorem hdX4_pitchOf : yX4_pitchOf.cls = RX4 ∧ yX4_pitchOf.cls ≠ "java/lang/invoke/MethodHandle" ∧ yX4_pitchOf.cls ≠ "java/lang/invoke/VarHandle" ∧ (parseMethodDescriptor yX4_pitchOf.desc).map (fun d => d.parameters.length) = some 1 := by decide +kernel
theorem hdX4_move : yX4_move.cls = RX4 ∧ yX4_move.cls ≠ "java/lang/invoke/MethodHandle" ∧ yX4_move.cls ≠ "java/lang/invoke/VarHandle" ∧ (parseMethodDescriptor yX4_move.desc).map (fun d => d.parameters.length) = some 0 := by decide +kernel
theorem hdX4_decide : yX4_decide.cls = RX4 ∧ yX4_decide.cls ≠ "java/lang/invoke/MethodHandle" ∧ yX4_decide.cls ≠ "java/lang/invoke/VarHandle" ∧ (parseMethodDescriptor yX4_decide.desc).map (fun d => d.parameters.length) = some 1 := by decide +kernel
theorem hdX4_firstFor : yX4_firstFor.cls = RX4 ∧ yX4_firstFor.cls ≠ "java/lang/invoke/MethodHandle" ∧ yX4_firstFor.cls ≠ "java/lang/invoke/VarHandle" ∧ (parseMethodDescriptor yX4_firstFor.desc).map (fun d => d.parameters.length) = some 2 := by decide +kernel
theorem hdX4_startOn : yX4_startOn.cls = RX4 ∧ yX4_startOn.cls ≠ "java/lang/invoke/MethodHandle" ∧ yX4_startOn.cls ≠ "java/lang/invoke/VarHandle" ∧ (parseMethodDescriptor yX4_startOn.desc).map (fun d => d.parameters.length) = some 1 := by decide +kernel
theorem hdX4_breathe : yX4_breathe.cls = RX4 ∧ yX4_breathe.cls ≠ "java/lang/invoke/MethodHandle" ∧ yX4_breathe.cls ≠ "java/lang/invoke/VarHandle" ∧ (parseMethodDescriptor yX4_breathe.desc).map (fun d => d.parameters.length) = some 1 := by decide +kernel
theorem hdX4_step : yX4_step.cls = RX4 ∧ yX4_step.cls ≠ "java/lang/invoke/MethodHandle" ∧ yX4_step.cls ≠ "java/lang/invoke/VarHandle" ∧ (parseMethodDescriptor yX4_step.desc).map (fun d => d.parameters.length) = some 0 := by decide +kernel
theorem hdX4_run : yX4_run.cls = RX4 ∧ yX4_run.cls ≠ "java/lang/invoke/MethodHandle" ∧ yX4_run.cls ≠ "java/lang/invoke/VarHandle" ∧ (parseMethodDescriptor yX4_run.desc).map (fun d => d.parameters.length) = some 1 := by decide +kernel
theorem hdX4_summits : yX4_summits.cls = RX4 ∧ yX4_summits.cls ≠ "java/lang/invoke/MethodHandle" ∧ yX4_summits.cls ≠ "java/lang/invoke/VarHandle" ∧ (parseMethodDescriptor yX4_summits.desc).map (fun d => d.parameters.length) = some 0 := by decide +kernel
theorem hdX4_inState : yX4_inState.cls = RX4 ∧ yX4_inState.cls ≠ "java/lang/invoke/MethodHandle" ∧ yX4_inState.cls ≠ "java/lang/invoke/VarHandle" ∧ (parseMethodDescriptor yX4_inState.desc).map (fun d => d.parameters.length) = some 1 := by decide +kernel
theorem hdX4_waits : yX4_waits.cls = RX4 ∧ yX4_waits.cls ≠ "java/lang/invoke/MethodHandle" ∧ yX4_waits.cls ≠ "java/lang/invoke/VarHandle" ∧ (parseMethodDescriptor yX4_waits.desc).map (fun d => d.parameters.length) = some 0 := by decide +kernel
theorem hdX4_count : yX4_count.cls = RX4 ∧ yX4_count.cls ≠ "java/lang/invoke/MethodHandle" ∧ yX4_count.cls ≠ "java/lang/invoke/VarHandle" ∧ (parseMethodDescriptor yX4_count.desc).map (fun d => d.parameters.length) = some 1 := by decide +kernel
theorem hdX4_of : yX4_of.cls = RX4 ∧ yX4_of.cls ≠ "java/lang/invoke/MethodHandle" ∧ yX4_of.cls ≠ "java/lang/invoke/VarHandle" ∧ (parseMethodDescriptor yX4_of.desc).map (fun d => d.parameters.length) = some 2 := by decide +kernel
theorem hdX4_on : yX4_on.cls = RX4 ∧ yX4_on.cls ≠ "java/lang/invoke/MethodHandle" ∧ yX4_on.cls ≠ "java/lang/invoke/VarHandle" ∧ (parseMethodDescriptor yX4_on.desc).map (fun d => d.parameters.length) = some 1 := by decide +kernel
theorem hdX4_at : yX4_at.cls = RX4 ∧ yX4_at.cls ≠ "java/lang/invoke/MethodHandle" ∧ yX4_at.cls ≠ "java/lang/invoke/VarHandle" ∧ (parseMethodDescriptor yX4_at.desc).map (fun d => d.parameters.length) = some 1 := by decide +kernel
theorem hdX4_hoursTo : yX4_hoursTo.cls = RX4 ∧ yX4_hoursTo.cls ≠ "java/lang/invoke/MethodHandle" ∧ yX4_hoursTo.cls ≠ "java/lang/invoke/VarHandle" ∧ (parseMethodDescriptor yX4_hoursTo.desc).map (fun d => d.parameters.length) = some 3 := by decide +kernel
theorem hdX4_fetch : yX4_fetch.cls = RX4 ∧ yX4_fetch.cls ≠ "java/lang/invoke/MethodHandle" ∧ yX4_fetch.cls ≠ "java/lang/invoke/VarHandle" ∧ (parseMethodDescriptor yX4_fetch.desc).map (fun d => d.parameters.length) = some 1 := by decide +kernel
theorem hdX4_runAside : yX4_runAside.cls = RX4 ∧ yX4_runAside.cls ≠ "java/lang/invoke/MethodHandle" ∧ yX4_runAside.cls ≠ "java/lang/invoke/VarHandle" ∧ (parseMethodDescriptor yX4_runAside.desc).map (fun d => d.parameters.length) = some 0 := by decide +kernel
theorem hdX4_tries : yX4_tries.cls = RX4 ∧ yX4_tries.cls ≠ "java/lang/invoke/MethodHandle" ∧ yX4_tries.cls ≠ "java/lang/invoke/VarHandle" ∧ (parseMethodDescriptor yX4_tries.desc).map (fun d => d.parameters.length) = some 5 := by decide +kernel
theorem hdX4_plan : yX4_plan.cls = RX4 ∧ yX4_plan.cls ≠ "java/lang/invoke/MethodHandle" ∧ yX4_plan.cls ≠ "java/lang/invoke/VarHandle" ∧ (parseMethodDescriptor yX4_plan.desc).map (fun d => d.parameters.length) = some 1 := by decide +kernel
theorem hdX4_tell : yX4_tell.cls = RX4 ∧ yX4_tell.cls ≠ "java/lang/invoke/MethodHandle" ∧ yX4_tell.cls ≠ "java/lang/invoke/VarHandle" ∧ (parseMethodDescriptor yX4_tell.desc).map (fun d => d.parameters.length) = some 2 := by decide +kernel
theorem hdX4_need : yX4_need.cls = RX4 ∧ yX4_need.cls ≠ "java/lang/invoke/MethodHandle" ∧ yX4_need.cls ≠ "java/lang/invoke/VarHandle" ∧ (parseMethodDescriptor yX4_need.desc).map (fun d => d.parameters.length) = some 2 := by decide +kernel
theorem hdX4_comes : yX4_comes.cls = RX4 ∧ yX4_comes.cls ≠ "java/lang/invoke/MethodHandle" ∧ yX4_comes.cls ≠ "java/lang/invoke/VarHandle" ∧ (parseMethodDescriptor yX4_comes.desc).map (fun d => d.parameters.length) = some 2 := by decide +kernel
/-! Ropes, Party: what they answer -/
def isW (v a b : Int32) : Int32 := if v < a then 0 else if b < v then 0 else 1
theorem isW_n (v a b : Int32) : narrow .boolean (.int (isW v a b)) = .int (isW v a b) := by unfold isW; split <;> (try split) <;> rfl
theorem isW_ne {v a b : Int32} : isW v a b = 0 ∨ isW v a b = 1 := by unfold isW; split <;> (try split) <;> simp
theorem isW_in {v a b : Int32} (h : ¬ isW v a b = 0) : a ≤ v ∧ v ≤ b := by
  unfold isW at h
  split at h
  · exact absurd rfl h
  · split at h
    · exact absurd rfl h
    · rename_i h1 h2; exact ⟨Int32.not_lt.mp h1, Int32.not_lt.mp h2⟩
theorem vix_of {x M : Int32} {n : Nat} (hM : M.toInt + 1 = n) (h0 : 0 ≤ x) (h1 : x ≤ M) : vix x n x.toNatClampNeg := ⟨vp_in_iff.mpr ⟨Int32.le_iff_toInt_le.mp h0, by have := Int32.le_iff_toInt_le.mp h1; omega⟩, rfl⟩
def c_windy (E : mT) (h : Int32) : Int32 := if isW h 0 199 = 0 then 0 else if E 2 h.toNatClampNeg = 0 then 0 else 1
theorem c_windy_n (E : mT) (h : Int32) : narrow .boolean (.int (c_windy E h)) = .int (c_windy E h) := by unfold c_windy; split <;> (try split) <;> rfl
abbrev rX3_isWithin : Room := { frames := 0, cells := 0, slots := 0, locals := 0 }
set_option maxRecDepth 100000 in
set_option maxHeartbeats 4000000 in
theorem KX3_isWithin {l : Launch} {D : va_G} {cI cZ : ClassId} {ad : Nat → Nat} {A : Nat → Prop} (w : va_W) (v x y : Int32) : vKi l D (vtys cI cZ) A yX3_isWithin (uT yX3_isWithin cX3_isWithin 3 (some .boolean)) rX3_isWithin (w) [.int v, .int x, .int y] (isW v x y) (w) := by
  refine vKi_of (cc := cX3_isWithin) (maxL := 3) (ret := some .boolean) (by decide) rfl rfl (Nat.le_of_ble_eq_true rfl) ?_
  intro p e s m below meth c Cx hr hlk
  refine vV_iload_n Cx 0 dX3_isWithin_0 rfl rfl ?_
  refine vV_iload_n Cx 1 dX3_isWithin_1 rfl rfl ?_
  refine vV_icmp_lt (tgt := 14) Cx dX3_isWithin_2 (by decide) (fun h2 => ?_) (fun h2 => ?_)
  · refine vV_iconst (v := 0) Cx dX3_isWithin_14 (by decide) ?_
    exact vV_zret Cx hr hlk dX3_isWithin_15 (by first | rfl | decide) (by simp [isW, h2]) (by rfl)
  · refine vV_iload_n Cx 0 dX3_isWithin_5 rfl rfl ?_
    refine vV_iload_n Cx 2 dX3_isWithin_6 rfl rfl ?_
    refine vV_icmp_gt (tgt := 14) Cx dX3_isWithin_7 (by decide) (fun h7 => ?_) (fun h7 => ?_)
    · refine vV_iconst (v := 0) Cx dX3_isWithin_14 (by decide) ?_
      exact vV_zret Cx hr hlk dX3_isWithin_15 (by first | rfl | decide) (by simp [isW, h2, h7]) (by rfl)
    · refine vV_iconst (v := 1) Cx dX3_isWithin_10 (by decide) ?_
      refine vV_goto (tgt := 15) Cx dX3_isWithin_11 (by decide) ?_
      exact vV_zret Cx hr hlk dX3_isWithin_15 (by first | rfl | decide) (by simp [isW, h2, h7]) (by rfl)
abbrev rX2_hasPitch : Room := { frames := 1, cells := 0, slots := 0, locals := 22 }
set_option maxRecDepth 100000 in
set_option maxHeartbeats 4000000 in
theorem KX2_hasPitch {l : Launch} {D : va_G} {cI cZ : ClassId} {ad : Nat → Nat} {A : Nat → Prop} {b : Nat} (hb : b = 1 ∨ b = 2) {E C X : mT} {S : Nat → Int32} (v : Int32) : vKi l D (vtys cI cZ) A yX2_hasPitch (uT yX2_hasPitch cX2_hasPitch 2 (some .boolean)) rX2_hasPitch (wB cI cZ ad b E C X S) [.ref (ad 1), .int v] (isW v 0 (E 8 0 - 1)) (wB cI cZ ad b E C X S) := by
  refine vKi_of (cc := cX2_hasPitch) (maxL := 2) (ret := some .boolean) (by decide) rfl rfl (Nat.le_of_ble_eq_true rfl) ?_
  intro p e s m below meth c Cx hr hlk
  refine vV_iload_n Cx 1 dX2_hasPitch_0 rfl rfl ?_
  refine vV_iconst (v := 0) Cx dX2_hasPitch_1 (by decide) ?_
  refine vV_aload_n Cx 0 dX2_hasPitch_2 rfl rfl ?_
  refine vU_get Cx hinX2 1 (lkRopes hb) rfl 0 (by decide) u1_37 rfl dX2_hasPitch_3 ?_
  refine vV_iconst (v := 1) Cx dX2_hasPitch_6 (by decide) ?_
  refine vV_isub Cx dX2_hasPitch_7 ?_
  refine vV_callNi Cx (KX3_isWithin (ad := ad) _ _ _ _) ⟨va_cnB 3 Cx.1.2.2.2.2 (uG u1_173) rfl rfl rfl Cx.2.2.2 (Cx.1.2.2.2.2 _ (List.mem_cons_of_mem _ u1_1)) hdX3_isWithin.2 ⟨Nat.le_of_ble_eq_true rfl, Nat.le_of_ble_eq_true rfl⟩, Cx.1.2.2.2.2 _ (List.mem_cons_of_mem _ u1_172), trivial⟩ rfl rfl (Nat.le_of_ble_eq_true rfl) ⟨Nat.zero_le _, Nat.zero_le _⟩ dX2_hasPitch_8 ?_
  exact vV_zret Cx hr hlk dX2_hasPitch_11 (by exact isW_n _ _ _) (by rfl) (by rfl)
abbrev rX2_hasCamp : Room := { frames := 1, cells := 0, slots := 0, locals := 22 }
set_option maxRecDepth 100000 in
set_option maxHeartbeats 4000000 in
theorem KX2_hasCamp {l : Launch} {D : va_G} {cI cZ : ClassId} {ad : Nat → Nat} {A : Nat → Prop} {b : Nat} (hb : b = 1 ∨ b = 2) {E C X : mT} {S : Nat → Int32} (v : Int32) : vKi l D (vtys cI cZ) A yX2_hasCamp (uT yX2_hasCamp cX2_hasCamp 2 (some .boolean)) rX2_hasCamp (wB cI cZ ad b E C X S) [.ref (ad 1), .int v] (isW v 0 (E 8 0)) (wB cI cZ ad b E C X S) := by
  refine vKi_of (cc := cX2_hasCamp) (maxL := 2) (ret := some .boolean) (by decide) rfl rfl (Nat.le_of_ble_eq_true rfl) ?_
  intro p e s m below meth c Cx hr hlk
  refine vV_iload_n Cx 1 dX2_hasCamp_0 rfl rfl ?_
  refine vV_iconst (v := 0) Cx dX2_hasCamp_1 (by decide) ?_
  refine vV_aload_n Cx 0 dX2_hasCamp_2 rfl rfl ?_
  refine vU_get Cx hinX2 1 (lkRopes hb) rfl 0 (by decide) u1_37 rfl dX2_hasCamp_3 ?_
  refine vV_callNi Cx (KX3_isWithin (ad := ad) _ _ _ _) ⟨va_cnB 3 Cx.1.2.2.2.2 (uG u1_173) rfl rfl rfl Cx.2.2.2 (Cx.1.2.2.2.2 _ (List.mem_cons_of_mem _ u1_1)) hdX3_isWithin.2 ⟨Nat.le_of_ble_eq_true rfl, Nat.le_of_ble_eq_true rfl⟩, Cx.1.2.2.2.2 _ (List.mem_cons_of_mem _ u1_172), trivial⟩ rfl rfl (Nat.le_of_ble_eq_true rfl) ⟨Nat.zero_le _, Nat.zero_le _⟩ dX2_hasCamp_6 ?_
  exact vV_zret Cx hr hlk dX2_hasCamp_9 (by exact isW_n _ _ _) (by rfl) (by rfl)
abbrev rX2_isWindy : Room := { frames := 1, cells := 0, slots := 0, locals := 22 }
set_option maxRecDepth 100000 in
set_option maxHeartbeats 4000000 in
theorem KX2_isWindy {l : Launch} {D : va_G} {cI cZ : ClassId} {ad : Nat → Nat} {A : Nat → Prop} {b : Nat} (hb : b = 1 ∨ b = 2) {E C X : mT} {S : Nat → Int32} (v : Int32) : vKi l D (vtys cI cZ) A yX2_isWindy (uT yX2_isWindy cX2_isWindy 2 (some .boolean)) rX2_isWindy (wB cI cZ ad b E C X S) [.ref (ad 1), .int v] (c_windy E v) (wB cI cZ ad b E C X S) := by
  refine vKi_of (cc := cX2_isWindy) (maxL := 2) (ret := some .boolean) (by decide) rfl rfl (Nat.le_of_ble_eq_true rfl) ?_
  intro p e s m below meth c Cx hr hlk
  refine vV_iload_n Cx 1 dX2_isWindy_0 rfl rfl ?_
  refine vV_iconst (v := 0) Cx dX2_isWindy_1 (by decide) ?_
  refine vV_sipush (v := 199) Cx dX2_isWindy_2 (by decide) ?_
  refine vV_callNi Cx (KX3_isWithin (ad := ad) _ _ _ _) ⟨va_cnB 3 Cx.1.2.2.2.2 (uG u1_173) rfl rfl rfl Cx.2.2.2 (Cx.1.2.2.2.2 _ (List.mem_cons_of_mem _ u1_1)) hdX3_isWithin.2 ⟨Nat.le_of_ble_eq_true rfl, Nat.le_of_ble_eq_true rfl⟩, Cx.1.2.2.2.2 _ (List.mem_cons_of_mem _ u1_172), trivial⟩ rfl rfl (Nat.le_of_ble_eq_true rfl) ⟨Nat.zero_le _, Nat.zero_le _⟩ dX2_isWindy_5 ?_
  refine vV_if_eq (tgt := 24) Cx dX2_isWindy_8 (by decide) (fun h8 => ?_) (fun h8 => ?_)
  · refine vV_iconst (v := 0) Cx dX2_isWindy_24 (by decide) ?_
    exact vV_zret Cx hr hlk dX2_isWindy_25 (by first | rfl | decide) (by simp [c_windy, h8]) (by rfl)
  · have hx : vix v 200 v.toNatClampNeg := vix_of (M := 199) rfl (isW_in h8).1 (isW_in h8).2
    refine vV_aload_n Cx 0 dX2_isWindy_11 rfl rfl ?_
    refine vU_get Cx hinX2 1 (lkRopes hb) rfl 4 (by decide) u1_49 rfl dX2_isWindy_12 ?_
    refine vV_iload_n Cx 1 dX2_isWindy_15 rfl rfl ?_
    refine vV_zald Cx 4 1 (lk_windy hb) rfl (by assumption) dX2_isWindy_16 ?_
    refine vV_if_eq (tgt := 24) Cx dX2_isWindy_17 (by decide) (fun h17 => ?_) (fun h17 => ?_)
    · refine vV_iconst (v := 0) Cx dX2_isWindy_24 (by decide) ?_
      exact vV_zret Cx hr hlk dX2_isWindy_25 (by first | rfl | decide) (by simp [c_windy, h8, h17]) (by rfl)
    · refine vV_iconst (v := 1) Cx dX2_isWindy_20 (by decide) ?_
      refine vV_goto (tgt := 25) Cx dX2_isWindy_21 (by decide) ?_
      exact vV_zret Cx hr hlk dX2_isWindy_25 (by first | rfl | decide) (by simp [c_windy, h8, h17]) (by rfl)
abbrev rX1_has : Room := { frames := 1, cells := 0, slots := 0, locals := 22 }
set_option maxRecDepth 100000 in
set_option maxHeartbeats 4000000 in
theorem KX1_has {l : Launch} {D : va_G} {cI cZ : ClassId} {ad : Nat → Nat} {A : Nat → Prop} {b : Nat} (hb : b = 1 ∨ b = 2) {E C X : mT} {S : Nat → Int32} (v : Int32) : vKi l D (vtys cI cZ) A yX1_has (uT yX1_has cX1_has 2 (some .boolean)) rX1_has (wB cI cZ ad b E C X S) [.ref (ad 5), .int v] (isW v 0 (E 8 2 - 1)) (wB cI cZ ad b E C X S) := by
  refine vKi_of (cc := cX1_has) (maxL := 2) (ret := some .boolean) (by decide) rfl rfl (Nat.le_of_ble_eq_true rfl) ?_
  intro p e s m below meth c Cx hr hlk
  refine vV_iload_n Cx 1 dX1_has_0 rfl rfl ?_
  refine vV_iconst (v := 0) Cx dX1_has_1 (by decide) ?_
  refine vV_aload_n Cx 0 dX1_has_2 rfl rfl ?_
  refine vU_get Cx hinX1 5 (lkParty hb) rfl 0 (by decide) u1_71 rfl dX1_has_3 ?_
  refine vV_iconst (v := 1) Cx dX1_has_6 (by decide) ?_
  refine vV_isub Cx dX1_has_7 ?_
  refine vV_callNi Cx (KX3_isWithin (ad := ad) _ _ _ _) ⟨va_cnB 3 Cx.1.2.2.2.2 (uG u1_173) rfl rfl rfl Cx.2.2.1 (Cx.1.2.2.2.2 _ (List.mem_cons_of_mem _ u1_1)) hdX3_isWithin.2 ⟨Nat.le_of_ble_eq_true rfl, Nat.le_of_ble_eq_true rfl⟩, Cx.1.2.2.2.2 _ (List.mem_cons_of_mem _ u1_172), trivial⟩ rfl rfl (Nat.le_of_ble_eq_true rfl) ⟨Nat.zero_le _, Nat.zero_le _⟩ dX1_has_8 ?_
  exact vV_zret Cx hr hlk dX1_has_11 (by exact isW_n _ _ _) (by rfl) (by rfl)
