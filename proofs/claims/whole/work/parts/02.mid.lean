theorem hdHart_init : yHart_init.cls = RHart ∧ yHart_init.cls ≠ "java/lang/invoke/MethodHandle" ∧ yHart_init.cls ≠ "java/lang/invoke/VarHandle" ∧ (parseMethodDescriptor yHart_init.desc).map (fun d => d.parameters.length) = some 0 := by decide +kernel
theorem hdHart_poke : yHart_poke.cls = RHart ∧ yHart_poke.cls ≠ "java/lang/invoke/MethodHandle" ∧ yHart_poke.cls ≠ "java/lang/invoke/VarHandle" ∧ (parseMethodDescriptor yHart_poke.desc).map (fun d => d.parameters.length) = some 2 := by decide +kernel
theorem hdHart_plant : yHart_plant.cls = RHart ∧ yHart_plant.cls ≠ "java/lang/invoke/MethodHandle" ∧ yHart_plant.cls ≠ "java/lang/invoke/VarHandle" ∧ (parseMethodDescriptor yHart_plant.desc).map (fun d => d.parameters.length) = some 2 := by decide +kernel
theorem hdHart_peek : yHart_peek.cls = RHart ∧ yHart_peek.cls ≠ "java/lang/invoke/MethodHandle" ∧ yHart_peek.cls ≠ "java/lang/invoke/VarHandle" ∧ (parseMethodDescriptor yHart_peek.desc).map (fun d => d.parameters.length) = some 1 := by decide +kernel
theorem hdHart_rights : yHart_rights.cls = RHart ∧ yHart_rights.cls ≠ "java/lang/invoke/MethodHandle" ∧ yHart_rights.cls ≠ "java/lang/invoke/VarHandle" ∧ (parseMethodDescriptor yHart_rights.desc).map (fun d => d.parameters.length) = some 2 := by decide +kernel
theorem hdHart_set : yHart_set.cls = RHart ∧ yHart_set.cls ≠ "java/lang/invoke/MethodHandle" ∧ yHart_set.cls ≠ "java/lang/invoke/VarHandle" ∧ (parseMethodDescriptor yHart_set.desc).map (fun d => d.parameters.length) = some 2 := by decide +kernel
theorem hdHart_register : yHart_register.cls = RHart ∧ yHart_register.cls ≠ "java/lang/invoke/MethodHandle" ∧ yHart_register.cls ≠ "java/lang/invoke/VarHandle" ∧ (parseMethodDescriptor yHart_register.desc).map (fun d => d.parameters.length) = some 1 := by decide +kernel
theorem hdHart_jump : yHart_jump.cls = RHart ∧ yHart_jump.cls ≠ "java/lang/invoke/MethodHandle" ∧ yHart_jump.cls ≠ "java/lang/invoke/VarHandle" ∧ (parseMethodDescriptor yHart_jump.desc).map (fun d => d.parameters.length) = some 1 := by decide +kernel
theorem hdHart_clock : yHart_clock.cls = RHart ∧ yHart_clock.cls ≠ "java/lang/invoke/MethodHandle" ∧ yHart_clock.cls ≠ "java/lang/invoke/VarHandle" ∧ (parseMethodDescriptor yHart_clock.desc).map (fun d => d.parameters.length) = some 1 := by decide +kernel
theorem hdHart_step : yHart_step.cls = RHart ∧ yHart_step.cls ≠ "java/lang/invoke/MethodHandle" ∧ yHart_step.cls ≠ "java/lang/invoke/VarHandle" ∧ (parseMethodDescriptor yHart_step.desc).map (fun d => d.parameters.length) = some 0 := by decide +kernel
theorem hdHart_run : yHart_run.cls = RHart ∧ yHart_run.cls ≠ "java/lang/invoke/MethodHandle" ∧ yHart_run.cls ≠ "java/lang/invoke/VarHandle" ∧ (parseMethodDescriptor yHart_run.desc).map (fun d => d.parameters.length) = some 1 := by decide +kernel
theorem hdHart_count : yHart_count.cls = RHart ∧ yHart_count.cls ≠ "java/lang/invoke/MethodHandle" ∧ yHart_count.cls ≠ "java/lang/invoke/VarHandle" ∧ (parseMethodDescriptor yHart_count.desc).map (fun d => d.parameters.length) = some 1 := by decide +kernel
theorem hdHart_carryOutNext : yHart_carryOutNext.cls = RHart ∧ yHart_carryOutNext.cls ≠ "java/lang/invoke/MethodHandle" ∧ yHart_carryOutNext.cls ≠ "java/lang/invoke/VarHandle" ∧ (parseMethodDescriptor yHart_carryOutNext.desc).map (fun d => d.parameters.length) = some 0 := by decide +kernel
theorem hdHart_longFrom : yHart_longFrom.cls = RHart ∧ yHart_longFrom.cls ≠ "java/lang/invoke/MethodHandle" ∧ yHart_longFrom.cls ≠ "java/lang/invoke/VarHandle" ∧ (parseMethodDescriptor yHart_longFrom.desc).map (fun d => d.parameters.length) = some 1 := by decide +kernel
theorem hdHart_trap : yHart_trap.cls = RHart ∧ yHart_trap.cls ≠ "java/lang/invoke/MethodHandle" ∧ yHart_trap.cls ≠ "java/lang/invoke/VarHandle" ∧ (parseMethodDescriptor yHart_trap.desc).map (fun d => d.parameters.length) = some 2 := by decide +kernel
theorem hdHart_give : yHart_give.cls = RHart ∧ yHart_give.cls ≠ "java/lang/invoke/MethodHandle" ∧ yHart_give.cls ≠ "java/lang/invoke/VarHandle" ∧ (parseMethodDescriptor yHart_give.desc).map (fun d => d.parameters.length) = some 2 := by decide +kernel
theorem hdHart_linkAndJump : yHart_linkAndJump.cls = RHart ∧ yHart_linkAndJump.cls ≠ "java/lang/invoke/MethodHandle" ∧ yHart_linkAndJump.cls ≠ "java/lang/invoke/VarHandle" ∧ (parseMethodDescriptor yHart_linkAndJump.desc).map (fun d => d.parameters.length) = some 2 := by decide +kernel
theorem hdHart_jumpIf : yHart_jumpIf.cls = RHart ∧ yHart_jumpIf.cls ≠ "java/lang/invoke/MethodHandle" ∧ yHart_jumpIf.cls ≠ "java/lang/invoke/VarHandle" ∧ (parseMethodDescriptor yHart_jumpIf.desc).map (fun d => d.parameters.length) = some 2 := by decide +kernel
theorem hdHart_load : yHart_load.cls = RHart ∧ yHart_load.cls ≠ "java/lang/invoke/MethodHandle" ∧ yHart_load.cls ≠ "java/lang/invoke/VarHandle" ∧ (parseMethodDescriptor yHart_load.desc).map (fun d => d.parameters.length) = some 3 := by decide +kernel
theorem hdHart_store : yHart_store.cls = RHart ∧ yHart_store.cls ≠ "java/lang/invoke/MethodHandle" ∧ yHart_store.cls ≠ "java/lang/invoke/VarHandle" ∧ (parseMethodDescriptor yHart_store.desc).map (fun d => d.parameters.length) = some 3 := by decide +kernel
theorem hdHart_carryOutLong : yHart_carryOutLong.cls = RHart ∧ yHart_carryOutLong.cls ≠ "java/lang/invoke/MethodHandle" ∧ yHart_carryOutLong.cls ≠ "java/lang/invoke/VarHandle" ∧ (parseMethodDescriptor yHart_carryOutLong.desc).map (fun d => d.parameters.length) = some 1 := by decide +kernel
theorem hdHart_longJumpToRegister : yHart_longJumpToRegister.cls = RHart ∧ yHart_longJumpToRegister.cls ≠ "java/lang/invoke/MethodHandle" ∧ yHart_longJumpToRegister.cls ≠ "java/lang/invoke/VarHandle" ∧ (parseMethodDescriptor yHart_longJumpToRegister.desc).map (fun d => d.parameters.length) = some 1 := by decide +kernel
theorem hdHart_longBranch : yHart_longBranch.cls = RHart ∧ yHart_longBranch.cls ≠ "java/lang/invoke/MethodHandle" ∧ yHart_longBranch.cls ≠ "java/lang/invoke/VarHandle" ∧ (parseMethodDescriptor yHart_longBranch.desc).map (fun d => d.parameters.length) = some 1 := by decide +kernel
theorem hdHart_longLoad : yHart_longLoad.cls = RHart ∧ yHart_longLoad.cls ≠ "java/lang/invoke/MethodHandle" ∧ yHart_longLoad.cls ≠ "java/lang/invoke/VarHandle" ∧ (parseMethodDescriptor yHart_longLoad.desc).map (fun d => d.parameters.length) = some 1 := by decide +kernel
theorem hdHart_longStore : yHart_longStore.cls = RHart ∧ yHart_longStore.cls ≠ "java/lang/invoke/MethodHandle" ∧ yHart_longStore.cls ≠ "java/lang/invoke/VarHandle" ∧ (parseMethodDescriptor yHart_longStore.desc).map (fun d => d.parameters.length) = some 1 := by decide +kernel
theorem hdHart_longWithNumber : yHart_longWithNumber.cls = RHart ∧ yHart_longWithNumber.cls ≠ "java/lang/invoke/MethodHandle" ∧ yHart_longWithNumber.cls ≠ "java/lang/invoke/VarHandle" ∧ (parseMethodDescriptor yHart_longWithNumber.desc).map (fun d => d.parameters.length) = some 1 := by decide +kernel
theorem hdHart_longWithRegisters : yHart_longWithRegisters.cls = RHart ∧ yHart_longWithRegisters.cls ≠ "java/lang/invoke/MethodHandle" ∧ yHart_longWithRegisters.cls ≠ "java/lang/invoke/VarHandle" ∧ (parseMethodDescriptor yHart_longWithRegisters.desc).map (fun d => d.parameters.length) = some 1 := by decide +kernel
theorem hdHart_longAtomic : yHart_longAtomic.cls = RHart ∧ yHart_longAtomic.cls ≠ "java/lang/invoke/MethodHandle" ∧ yHart_longAtomic.cls ≠ "java/lang/invoke/VarHandle" ∧ (parseMethodDescriptor yHart_longAtomic.desc).map (fun d => d.parameters.length) = some 1 := by decide +kernel
theorem hdHart_loadReserved : yHart_loadReserved.cls = RHart ∧ yHart_loadReserved.cls ≠ "java/lang/invoke/MethodHandle" ∧ yHart_loadReserved.cls ≠ "java/lang/invoke/VarHandle" ∧ (parseMethodDescriptor yHart_loadReserved.desc).map (fun d => d.parameters.length) = some 2 := by decide +kernel
theorem hdHart_storeConditional : yHart_storeConditional.cls = RHart ∧ yHart_storeConditional.cls ≠ "java/lang/invoke/MethodHandle" ∧ yHart_storeConditional.cls ≠ "java/lang/invoke/VarHandle" ∧ (parseMethodDescriptor yHart_storeConditional.desc).map (fun d => d.parameters.length) = some 3 := by decide +kernel
theorem hdHart_change : yHart_change.cls = RHart ∧ yHart_change.cls ≠ "java/lang/invoke/MethodHandle" ∧ yHart_change.cls ≠ "java/lang/invoke/VarHandle" ∧ (parseMethodDescriptor yHart_change.desc).map (fun d => d.parameters.length) = some 4 := by decide +kernel
theorem hdHart_longSystem : yHart_longSystem.cls = RHart ∧ yHart_longSystem.cls ≠ "java/lang/invoke/MethodHandle" ∧ yHart_longSystem.cls ≠ "java/lang/invoke/VarHandle" ∧ (parseMethodDescriptor yHart_longSystem.desc).map (fun d => d.parameters.length) = some 1 := by decide +kernel
theorem hdHart_readCounter : yHart_readCounter.cls = RHart ∧ yHart_readCounter.cls ≠ "java/lang/invoke/MethodHandle" ∧ yHart_readCounter.cls ≠ "java/lang/invoke/VarHandle" ∧ (parseMethodDescriptor yHart_readCounter.desc).map (fun d => d.parameters.length) = some 1 := by decide +kernel
theorem hdHart_carryOutShort : yHart_carryOutShort.cls = RHart ∧ yHart_carryOutShort.cls ≠ "java/lang/invoke/MethodHandle" ∧ yHart_carryOutShort.cls ≠ "java/lang/invoke/VarHandle" ∧ (parseMethodDescriptor yHart_carryOutShort.desc).map (fun d => d.parameters.length) = some 1 := by decide +kernel
theorem hdHart_shortOfQ0 : yHart_shortOfQ0.cls = RHart ∧ yHart_shortOfQ0.cls ≠ "java/lang/invoke/MethodHandle" ∧ yHart_shortOfQ0.cls ≠ "java/lang/invoke/VarHandle" ∧ (parseMethodDescriptor yHart_shortOfQ0.desc).map (fun d => d.parameters.length) = some 1 := by decide +kernel
theorem hdHart_shortOfQ1 : yHart_shortOfQ1.cls = RHart ∧ yHart_shortOfQ1.cls ≠ "java/lang/invoke/MethodHandle" ∧ yHart_shortOfQ1.cls ≠ "java/lang/invoke/VarHandle" ∧ (parseMethodDescriptor yHart_shortOfQ1.desc).map (fun d => d.parameters.length) = some 1 := by decide +kernel
theorem hdHart_shortMoveStack : yHart_shortMoveStack.cls = RHart ∧ yHart_shortMoveStack.cls ≠ "java/lang/invoke/MethodHandle" ∧ yHart_shortMoveStack.cls ≠ "java/lang/invoke/VarHandle" ∧ (parseMethodDescriptor yHart_shortMoveStack.desc).map (fun d => d.parameters.length) = some 1 := by decide +kernel
theorem hdHart_shortUpperNumber : yHart_shortUpperNumber.cls = RHart ∧ yHart_shortUpperNumber.cls ≠ "java/lang/invoke/MethodHandle" ∧ yHart_shortUpperNumber.cls ≠ "java/lang/invoke/VarHandle" ∧ (parseMethodDescriptor yHart_shortUpperNumber.desc).map (fun d => d.parameters.length) = some 1 := by decide +kernel
theorem hdHart_shortArithmetic : yHart_shortArithmetic.cls = RHart ∧ yHart_shortArithmetic.cls ≠ "java/lang/invoke/MethodHandle" ∧ yHart_shortArithmetic.cls ≠ "java/lang/invoke/VarHandle" ∧ (parseMethodDescriptor yHart_shortArithmetic.desc).map (fun d => d.parameters.length) = some 1 := by decide +kernel
theorem hdHart_shortOfQ2 : yHart_shortOfQ2.cls = RHart ∧ yHart_shortOfQ2.cls ≠ "java/lang/invoke/MethodHandle" ∧ yHart_shortOfQ2.cls ≠ "java/lang/invoke/VarHandle" ∧ (parseMethodDescriptor yHart_shortOfQ2.desc).map (fun d => d.parameters.length) = some 1 := by decide +kernel
theorem hdHart_shortJumpToRegister : yHart_shortJumpToRegister.cls = RHart ∧ yHart_shortJumpToRegister.cls ≠ "java/lang/invoke/MethodHandle" ∧ yHart_shortJumpToRegister.cls ≠ "java/lang/invoke/VarHandle" ∧ (parseMethodDescriptor yHart_shortJumpToRegister.desc).map (fun d => d.parameters.length) = some 1 := by decide +kernel
theorem hdHart_shortMoveOrAdd : yHart_shortMoveOrAdd.cls = RHart ∧ yHart_shortMoveOrAdd.cls ≠ "java/lang/invoke/MethodHandle" ∧ yHart_shortMoveOrAdd.cls ≠ "java/lang/invoke/VarHandle" ∧ (parseMethodDescriptor yHart_shortMoveOrAdd.desc).map (fun d => d.parameters.length) = some 1 := by decide +kernel
theorem hdMod_init : yMod_init.cls = RMod ∧ yMod_init.cls ≠ "java/lang/invoke/MethodHandle" ∧ yMod_init.cls ≠ "java/lang/invoke/VarHandle" ∧ (parseMethodDescriptor yMod_init.desc).map (fun d => d.parameters.length) = some 0 := by decide +kernel
theorem hdMod_thrown : yMod_thrown.cls = RMod ∧ yMod_thrown.cls ≠ "java/lang/invoke/MethodHandle" ∧ yMod_thrown.cls ≠ "java/lang/invoke/VarHandle" ∧ (parseMethodDescriptor yMod_thrown.desc).map (fun d => d.parameters.length) = some 0 := by decide +kernel
theorem hdMod_in : yMod_in.cls = RMod ∧ yMod_in.cls ≠ "java/lang/invoke/MethodHandle" ∧ yMod_in.cls ≠ "java/lang/invoke/VarHandle" ∧ (parseMethodDescriptor yMod_in.desc).map (fun d => d.parameters.length) = some 3 := by decide +kernel
theorem hdMod_write : yMod_write.cls = RMod ∧ yMod_write.cls ≠ "java/lang/invoke/MethodHandle" ∧ yMod_write.cls ≠ "java/lang/invoke/VarHandle" ∧ (parseMethodDescriptor yMod_write.desc).map (fun d => d.parameters.length) = some 2 := by decide +kernel
theorem hdMod_poke : yMod_poke.cls = RMod ∧ yMod_poke.cls ≠ "java/lang/invoke/MethodHandle" ∧ yMod_poke.cls ≠ "java/lang/invoke/VarHandle" ∧ (parseMethodDescriptor yMod_poke.desc).map (fun d => d.parameters.length) = some 2 := by decide +kernel
theorem hdMod_plant : yMod_plant.cls = RMod ∧ yMod_plant.cls ≠ "java/lang/invoke/MethodHandle" ∧ yMod_plant.cls ≠ "java/lang/invoke/VarHandle" ∧ (parseMethodDescriptor yMod_plant.desc).map (fun d => d.parameters.length) = some 2 := by decide +kernel
theorem hdMod_peek : yMod_peek.cls = RMod ∧ yMod_peek.cls ≠ "java/lang/invoke/MethodHandle" ∧ yMod_peek.cls ≠ "java/lang/invoke/VarHandle" ∧ (parseMethodDescriptor yMod_peek.desc).map (fun d => d.parameters.length) = some 1 := by decide +kernel
theorem hdMod_rights : yMod_rights.cls = RMod ∧ yMod_rights.cls ≠ "java/lang/invoke/MethodHandle" ∧ yMod_rights.cls ≠ "java/lang/invoke/VarHandle" ∧ (parseMethodDescriptor yMod_rights.desc).map (fun d => d.parameters.length) = some 2 := by decide +kernel
theorem hdMod_set : yMod_set.cls = RMod ∧ yMod_set.cls ≠ "java/lang/invoke/MethodHandle" ∧ yMod_set.cls ≠ "java/lang/invoke/VarHandle" ∧ (parseMethodDescriptor yMod_set.desc).map (fun d => d.parameters.length) = some 2 := by decide +kernel
theorem hdMod_register : yMod_register.cls = RMod ∧ yMod_register.cls ≠ "java/lang/invoke/MethodHandle" ∧ yMod_register.cls ≠ "java/lang/invoke/VarHandle" ∧ (parseMethodDescriptor yMod_register.desc).map (fun d => d.parameters.length) = some 1 := by decide +kernel
theorem hdMod_jump : yMod_jump.cls = RMod ∧ yMod_jump.cls ≠ "java/lang/invoke/MethodHandle" ∧ yMod_jump.cls ≠ "java/lang/invoke/VarHandle" ∧ (parseMethodDescriptor yMod_jump.desc).map (fun d => d.parameters.length) = some 1 := by decide +kernel
theorem hdMod_clock : yMod_clock.cls = RMod ∧ yMod_clock.cls ≠ "java/lang/invoke/MethodHandle" ∧ yMod_clock.cls ≠ "java/lang/invoke/VarHandle" ∧ (parseMethodDescriptor yMod_clock.desc).map (fun d => d.parameters.length) = some 1 := by decide +kernel
theorem hdMod_part : yMod_part.cls = RMod ∧ yMod_part.cls ≠ "java/lang/invoke/MethodHandle" ∧ yMod_part.cls ≠ "java/lang/invoke/VarHandle" ∧ (parseMethodDescriptor yMod_part.desc).map (fun d => d.parameters.length) = some 3 := by decide +kernel
theorem hdMod_bit : yMod_bit.cls = RMod ∧ yMod_bit.cls ≠ "java/lang/invoke/MethodHandle" ∧ yMod_bit.cls ≠ "java/lang/invoke/VarHandle" ∧ (parseMethodDescriptor yMod_bit.desc).map (fun d => d.parameters.length) = some 4 := by decide +kernel
theorem hdMod_signed : yMod_signed.cls = RMod ∧ yMod_signed.cls ≠ "java/lang/invoke/MethodHandle" ∧ yMod_signed.cls ≠ "java/lang/invoke/VarHandle" ∧ (parseMethodDescriptor yMod_signed.desc).map (fun d => d.parameters.length) = some 2 := by decide +kernel
theorem hdMod_immediate : yMod_immediate.cls = RMod ∧ yMod_immediate.cls ≠ "java/lang/invoke/MethodHandle" ∧ yMod_immediate.cls ≠ "java/lang/invoke/VarHandle" ∧ (parseMethodDescriptor yMod_immediate.desc).map (fun d => d.parameters.length) = some 5 := by decide +kernel
theorem hdMod_registers : yMod_registers.cls = RMod ∧ yMod_registers.cls ≠ "java/lang/invoke/MethodHandle" ∧ yMod_registers.cls ≠ "java/lang/invoke/VarHandle" ∧ (parseMethodDescriptor yMod_registers.desc).map (fun d => d.parameters.length) = some 5 := by decide +kernel
theorem hdMod_store : yMod_store.cls = RMod ∧ yMod_store.cls ≠ "java/lang/invoke/MethodHandle" ∧ yMod_store.cls ≠ "java/lang/invoke/VarHandle" ∧ (parseMethodDescriptor yMod_store.desc).map (fun d => d.parameters.length) = some 3 := by decide +kernel
theorem hdMod_link : yMod_link.cls = RMod ∧ yMod_link.cls ≠ "java/lang/invoke/MethodHandle" ∧ yMod_link.cls ≠ "java/lang/invoke/VarHandle" ∧ (parseMethodDescriptor yMod_link.desc).map (fun d => d.parameters.length) = some 2 := by decide +kernel
theorem hdMod_branch : yMod_branch.cls = RMod ∧ yMod_branch.cls ≠ "java/lang/invoke/MethodHandle" ∧ yMod_branch.cls ≠ "java/lang/invoke/VarHandle" ∧ (parseMethodDescriptor yMod_branch.desc).map (fun d => d.parameters.length) = some 3 := by decide +kernel
theorem hdMod_expand : yMod_expand.cls = RMod ∧ yMod_expand.cls ≠ "java/lang/invoke/MethodHandle" ∧ yMod_expand.cls ≠ "java/lang/invoke/VarHandle" ∧ (parseMethodDescriptor yMod_expand.desc).map (fun d => d.parameters.length) = some 1 := by decide +kernel
theorem hdMod_zero : yMod_zero.cls = RMod ∧ yMod_zero.cls ≠ "java/lang/invoke/MethodHandle" ∧ yMod_zero.cls ≠ "java/lang/invoke/VarHandle" ∧ (parseMethodDescriptor yMod_zero.desc).map (fun d => d.parameters.length) = some 2 := by decide +kernel
theorem hdMod_one : yMod_one.cls = RMod ∧ yMod_one.cls ≠ "java/lang/invoke/MethodHandle" ∧ yMod_one.cls ≠ "java/lang/invoke/VarHandle" ∧ (parseMethodDescriptor yMod_one.desc).map (fun d => d.parameters.length) = some 2 := by decide +kernel
theorem hdMod_four : yMod_four.cls = RMod ∧ yMod_four.cls ≠ "java/lang/invoke/MethodHandle" ∧ yMod_four.cls ≠ "java/lang/invoke/VarHandle" ∧ (parseMethodDescriptor yMod_four.desc).map (fun d => d.parameters.length) = some 2 := by decide +kernel
theorem hdMod_two : yMod_two.cls = RMod ∧ yMod_two.cls ≠ "java/lang/invoke/MethodHandle" ∧ yMod_two.cls ≠ "java/lang/invoke/VarHandle" ∧ (parseMethodDescriptor yMod_two.desc).map (fun d => d.parameters.length) = some 2 := by decide +kernel
theorem hdMod_trap : yMod_trap.cls = RMod ∧ yMod_trap.cls ≠ "java/lang/invoke/MethodHandle" ∧ yMod_trap.cls ≠ "java/lang/invoke/VarHandle" ∧ (parseMethodDescriptor yMod_trap.desc).map (fun d => d.parameters.length) = some 2 := by decide +kernel
theorem hdMod_illegal : yMod_illegal.cls = RMod ∧ yMod_illegal.cls ≠ "java/lang/invoke/MethodHandle" ∧ yMod_illegal.cls ≠ "java/lang/invoke/VarHandle" ∧ (parseMethodDescriptor yMod_illegal.desc).map (fun d => d.parameters.length) = some 0 := by decide +kernel
theorem hdMod_may : yMod_may.cls = RMod ∧ yMod_may.cls ≠ "java/lang/invoke/MethodHandle" ∧ yMod_may.cls ≠ "java/lang/invoke/VarHandle" ∧ (parseMethodDescriptor yMod_may.desc).map (fun d => d.parameters.length) = some 2 := by decide +kernel
theorem hdMod_half : yMod_half.cls = RMod ∧ yMod_half.cls ≠ "java/lang/invoke/MethodHandle" ∧ yMod_half.cls ≠ "java/lang/invoke/VarHandle" ∧ (parseMethodDescriptor yMod_half.desc).map (fun d => d.parameters.length) = some 1 := by decide +kernel
theorem hdMod_fetches : yMod_fetches.cls = RMod ∧ yMod_fetches.cls ≠ "java/lang/invoke/MethodHandle" ∧ yMod_fetches.cls ≠ "java/lang/invoke/VarHandle" ∧ (parseMethodDescriptor yMod_fetches.desc).map (fun d => d.parameters.length) = some 1 := by decide +kernel
theorem hdMod_step : yMod_step.cls = RMod ∧ yMod_step.cls ≠ "java/lang/invoke/MethodHandle" ∧ yMod_step.cls ≠ "java/lang/invoke/VarHandle" ∧ (parseMethodDescriptor yMod_step.desc).map (fun d => d.parameters.length) = some 0 := by decide +kernel
theorem hdMod_give : yMod_give.cls = RMod ∧ yMod_give.cls ≠ "java/lang/invoke/MethodHandle" ∧ yMod_give.cls ≠ "java/lang/invoke/VarHandle" ∧ (parseMethodDescriptor yMod_give.desc).map (fun d => d.parameters.length) = some 2 := by decide +kernel
theorem hdMod_carry : yMod_carry.cls = RMod ∧ yMod_carry.cls ≠ "java/lang/invoke/MethodHandle" ∧ yMod_carry.cls ≠ "java/lang/invoke/VarHandle" ∧ (parseMethodDescriptor yMod_carry.desc).map (fun d => d.parameters.length) = some 1 := by decide +kernel
theorem hdMod_decide : yMod_decide.cls = RMod ∧ yMod_decide.cls ≠ "java/lang/invoke/MethodHandle" ∧ yMod_decide.cls ≠ "java/lang/invoke/VarHandle" ∧ (parseMethodDescriptor yMod_decide.desc).map (fun d => d.parameters.length) = some 4 := by decide +kernel
theorem hdMod_reckoned : yMod_reckoned.cls = RMod ∧ yMod_reckoned.cls ≠ "java/lang/invoke/MethodHandle" ∧ yMod_reckoned.cls ≠ "java/lang/invoke/VarHandle" ∧ (parseMethodDescriptor yMod_reckoned.desc).map (fun d => d.parameters.length) = some 3 := by decide +kernel
theorem hdMod_shifted : yMod_shifted.cls = RMod ∧ yMod_shifted.cls ≠ "java/lang/invoke/MethodHandle" ∧ yMod_shifted.cls ≠ "java/lang/invoke/VarHandle" ∧ (parseMethodDescriptor yMod_shifted.desc).map (fun d => d.parameters.length) = some 4 := by decide +kernel
theorem hdMod_multiplied : yMod_multiplied.cls = RMod ∧ yMod_multiplied.cls ≠ "java/lang/invoke/MethodHandle" ∧ yMod_multiplied.cls ≠ "java/lang/invoke/VarHandle" ∧ (parseMethodDescriptor yMod_multiplied.desc).map (fun d => d.parameters.length) = some 3 := by decide +kernel
theorem hdMod_load : yMod_load.cls = RMod ∧ yMod_load.cls ≠ "java/lang/invoke/MethodHandle" ∧ yMod_load.cls ≠ "java/lang/invoke/VarHandle" ∧ (parseMethodDescriptor yMod_load.desc).map (fun d => d.parameters.length) = some 2 := by decide +kernel
theorem hdMod_put : yMod_put.cls = RMod ∧ yMod_put.cls ≠ "java/lang/invoke/MethodHandle" ∧ yMod_put.cls ≠ "java/lang/invoke/VarHandle" ∧ (parseMethodDescriptor yMod_put.desc).map (fun d => d.parameters.length) = some 3 := by decide +kernel
theorem hdMod_atomic : yMod_atomic.cls = RMod ∧ yMod_atomic.cls ≠ "java/lang/invoke/MethodHandle" ∧ yMod_atomic.cls ≠ "java/lang/invoke/VarHandle" ∧ (parseMethodDescriptor yMod_atomic.desc).map (fun d => d.parameters.length) = some 5 := by decide +kernel
theorem hdMod_changed : yMod_changed.cls = RMod ∧ yMod_changed.cls ≠ "java/lang/invoke/MethodHandle" ∧ yMod_changed.cls ≠ "java/lang/invoke/VarHandle" ∧ (parseMethodDescriptor yMod_changed.desc).map (fun d => d.parameters.length) = some 3 := by decide +kernel
theorem hdMod_system : yMod_system.cls = RMod ∧ yMod_system.cls ≠ "java/lang/invoke/MethodHandle" ∧ yMod_system.cls ≠ "java/lang/invoke/VarHandle" ∧ (parseMethodDescriptor yMod_system.desc).map (fun d => d.parameters.length) = some 2 := by decide +kernel
theorem hdMod_run : yMod_run.cls = RMod ∧ yMod_run.cls ≠ "java/lang/invoke/MethodHandle" ∧ yMod_run.cls ≠ "java/lang/invoke/VarHandle" ∧ (parseMethodDescriptor yMod_run.desc).map (fun d => d.parameters.length) = some 1 := by decide +kernel
theorem hdMod_count : yMod_count.cls = RMod ∧ yMod_count.cls ≠ "java/lang/invoke/MethodHandle" ∧ yMod_count.cls ≠ "java/lang/invoke/VarHandle" ∧ (parseMethodDescriptor yMod_count.desc).map (fun d => d.parameters.length) = some 1 := by decide +kernel
theorem hdAr_isBelow : yAr_isBelow.cls = RAr ∧ yAr_isBelow.cls ≠ "java/lang/invoke/MethodHandle" ∧ yAr_isBelow.cls ≠ "java/lang/invoke/VarHandle" ∧ (parseMethodDescriptor yAr_isBelow.desc).map (fun d => d.parameters.length) = some 2 := by decide +kernel
theorem hdAr_plain : yAr_plain.cls = RAr ∧ yAr_plain.cls ≠ "java/lang/invoke/MethodHandle" ∧ yAr_plain.cls ≠ "java/lang/invoke/VarHandle" ∧ (parseMethodDescriptor yAr_plain.desc).map (fun d => d.parameters.length) = some 3 := by decide +kernel
theorem hdAr_multipliedOrDivided : yAr_multipliedOrDivided.cls = RAr ∧ yAr_multipliedOrDivided.cls ≠ "java/lang/invoke/MethodHandle" ∧ yAr_multipliedOrDivided.cls ≠ "java/lang/invoke/VarHandle" ∧ (parseMethodDescriptor yAr_multipliedOrDivided.desc).map (fun d => d.parameters.length) = some 3 := by decide +kernel
theorem hdAr_quotient : yAr_quotient.cls = RAr ∧ yAr_quotient.cls ≠ "java/lang/invoke/MethodHandle" ∧ yAr_quotient.cls ≠ "java/lang/invoke/VarHandle" ∧ (parseMethodDescriptor yAr_quotient.desc).map (fun d => d.parameters.length) = some 2 := by decide +kernel
theorem hdAr_remainder : yAr_remainder.cls = RAr ∧ yAr_remainder.cls ≠ "java/lang/invoke/MethodHandle" ∧ yAr_remainder.cls ≠ "java/lang/invoke/VarHandle" ∧ (parseMethodDescriptor yAr_remainder.desc).map (fun d => d.parameters.length) = some 2 := by decide +kernel
theorem hdAr_ofTwoNear : yAr_ofTwoNear.cls = RAr ∧ yAr_ofTwoNear.cls ≠ "java/lang/invoke/MethodHandle" ∧ yAr_ofTwoNear.cls ≠ "java/lang/invoke/VarHandle" ∧ (parseMethodDescriptor yAr_ofTwoNear.desc).map (fun d => d.parameters.length) = some 3 := by decide +kernel
theorem hdAr_changed : yAr_changed.cls = RAr ∧ yAr_changed.cls ≠ "java/lang/invoke/MethodHandle" ∧ yAr_changed.cls ≠ "java/lang/invoke/VarHandle" ∧ (parseMethodDescriptor yAr_changed.desc).map (fun d => d.parameters.length) = some 3 := by decide +kernel
theorem hdBits_part : yBits_part.cls = RBits ∧ yBits_part.cls ≠ "java/lang/invoke/MethodHandle" ∧ yBits_part.cls ≠ "java/lang/invoke/VarHandle" ∧ (parseMethodDescriptor yBits_part.desc).map (fun d => d.parameters.length) = some 3 := by decide +kernel
theorem hdBits_signed : yBits_signed.cls = RBits ∧ yBits_signed.cls ≠ "java/lang/invoke/MethodHandle" ∧ yBits_signed.cls ≠ "java/lang/invoke/VarHandle" ∧ (parseMethodDescriptor yBits_signed.desc).map (fun d => d.parameters.length) = some 2 := by decide +kernel
theorem hdLF_d : yLF_d.cls = RLF ∧ yLF_d.cls ≠ "java/lang/invoke/MethodHandle" ∧ yLF_d.cls ≠ "java/lang/invoke/VarHandle" ∧ (parseMethodDescriptor yLF_d.desc).map (fun d => d.parameters.length) = some 1 := by decide +kernel
theorem hdLF_f : yLF_f.cls = RLF ∧ yLF_f.cls ≠ "java/lang/invoke/MethodHandle" ∧ yLF_f.cls ≠ "java/lang/invoke/VarHandle" ∧ (parseMethodDescriptor yLF_f.desc).map (fun d => d.parameters.length) = some 1 := by decide +kernel
theorem hdLF_a : yLF_a.cls = RLF ∧ yLF_a.cls ≠ "java/lang/invoke/MethodHandle" ∧ yLF_a.cls ≠ "java/lang/invoke/VarHandle" ∧ (parseMethodDescriptor yLF_a.desc).map (fun d => d.parameters.length) = some 1 := by decide +kernel
theorem hdLF_b : yLF_b.cls = RLF ∧ yLF_b.cls ≠ "java/lang/invoke/MethodHandle" ∧ yLF_b.cls ≠ "java/lang/invoke/VarHandle" ∧ (parseMethodDescriptor yLF_b.desc).map (fun d => d.parameters.length) = some 1 := by decide +kernel
theorem hdLF_g : yLF_g.cls = RLF ∧ yLF_g.cls ≠ "java/lang/invoke/MethodHandle" ∧ yLF_g.cls ≠ "java/lang/invoke/VarHandle" ∧ (parseMethodDescriptor yLF_g.desc).map (fun d => d.parameters.length) = some 1 := by decide +kernel
theorem hdLF_k : yLF_k.cls = RLF ∧ yLF_k.cls ≠ "java/lang/invoke/MethodHandle" ∧ yLF_k.cls ≠ "java/lang/invoke/VarHandle" ∧ (parseMethodDescriptor yLF_k.desc).map (fun d => d.parameters.length) = some 1 := by decide +kernel
theorem hdLF_numberI : yLF_numberI.cls = RLF ∧ yLF_numberI.cls ≠ "java/lang/invoke/MethodHandle" ∧ yLF_numberI.cls ≠ "java/lang/invoke/VarHandle" ∧ (parseMethodDescriptor yLF_numberI.desc).map (fun d => d.parameters.length) = some 1 := by decide +kernel
theorem hdLF_numberS : yLF_numberS.cls = RLF ∧ yLF_numberS.cls ≠ "java/lang/invoke/MethodHandle" ∧ yLF_numberS.cls ≠ "java/lang/invoke/VarHandle" ∧ (parseMethodDescriptor yLF_numberS.desc).map (fun d => d.parameters.length) = some 1 := by decide +kernel
theorem hdLF_upperNumber : yLF_upperNumber.cls = RLF ∧ yLF_upperNumber.cls ≠ "java/lang/invoke/MethodHandle" ∧ yLF_upperNumber.cls ≠ "java/lang/invoke/VarHandle" ∧ (parseMethodDescriptor yLF_upperNumber.desc).map (fun d => d.parameters.length) = some 1 := by decide +kernel
theorem hdLF_offsetJ : yLF_offsetJ.cls = RLF ∧ yLF_offsetJ.cls ≠ "java/lang/invoke/MethodHandle" ∧ yLF_offsetJ.cls ≠ "java/lang/invoke/VarHandle" ∧ (parseMethodDescriptor yLF_offsetJ.desc).map (fun d => d.parameters.length) = some 1 := by decide +kernel
theorem hdLF_offsetT : yLF_offsetT.cls = RLF ∧ yLF_offsetT.cls ≠ "java/lang/invoke/MethodHandle" ∧ yLF_offsetT.cls ≠ "java/lang/invoke/VarHandle" ∧ (parseMethodDescriptor yLF_offsetT.desc).map (fun d => d.parameters.length) = some 1 := by decide +kernel
theorem hdLF_isAtomic : yLF_isAtomic.cls = RLF ∧ yLF_isAtomic.cls ≠ "java/lang/invoke/MethodHandle" ∧ yLF_isAtomic.cls ≠ "java/lang/invoke/VarHandle" ∧ (parseMethodDescriptor yLF_isAtomic.desc).map (fun d => d.parameters.length) = some 1 := by decide +kernel
theorem hdMem_init : yMem_init.cls = RMem ∧ yMem_init.cls ≠ "java/lang/invoke/MethodHandle" ∧ yMem_init.cls ≠ "java/lang/invoke/VarHandle" ∧ (parseMethodDescriptor yMem_init.desc).map (fun d => d.parameters.length) = some 0 := by decide +kernel
theorem hdMem_holds : yMem_holds.cls = RMem ∧ yMem_holds.cls ≠ "java/lang/invoke/MethodHandle" ∧ yMem_holds.cls ≠ "java/lang/invoke/VarHandle" ∧ (parseMethodDescriptor yMem_holds.desc).map (fun d => d.parameters.length) = some 1 := by decide +kernel
theorem hdMem_isMisaligned : yMem_isMisaligned.cls = RMem ∧ yMem_isMisaligned.cls ≠ "java/lang/invoke/MethodHandle" ∧ yMem_isMisaligned.cls ≠ "java/lang/invoke/VarHandle" ∧ (parseMethodDescriptor yMem_isMisaligned.desc).map (fun d => d.parameters.length) = some 2 := by decide +kernel
theorem hdMem_allows : yMem_allows.cls = RMem ∧ yMem_allows.cls ≠ "java/lang/invoke/MethodHandle" ∧ yMem_allows.cls ≠ "java/lang/invoke/VarHandle" ∧ (parseMethodDescriptor yMem_allows.desc).map (fun d => d.parameters.length) = some 2 := by decide +kernel
theorem hdMem_mayCarryOut : yMem_mayCarryOut.cls = RMem ∧ yMem_mayCarryOut.cls ≠ "java/lang/invoke/MethodHandle" ∧ yMem_mayCarryOut.cls ≠ "java/lang/invoke/VarHandle" ∧ (parseMethodDescriptor yMem_mayCarryOut.desc).map (fun d => d.parameters.length) = some 1 := by decide +kernel
theorem hdMem_exchangeRights : yMem_exchangeRights.cls = RMem ∧ yMem_exchangeRights.cls ≠ "java/lang/invoke/MethodHandle" ∧ yMem_exchangeRights.cls ≠ "java/lang/invoke/VarHandle" ∧ (parseMethodDescriptor yMem_exchangeRights.desc).map (fun d => d.parameters.length) = some 2 := by decide +kernel
theorem hdMem_reservedAddress : yMem_reservedAddress.cls = RMem ∧ yMem_reservedAddress.cls ≠ "java/lang/invoke/MethodHandle" ∧ yMem_reservedAddress.cls ≠ "java/lang/invoke/VarHandle" ∧ (parseMethodDescriptor yMem_reservedAddress.desc).map (fun d => d.parameters.length) = some 0 := by decide +kernel
theorem hdMem_reserve : yMem_reserve.cls = RMem ∧ yMem_reserve.cls ≠ "java/lang/invoke/MethodHandle" ∧ yMem_reserve.cls ≠ "java/lang/invoke/VarHandle" ∧ (parseMethodDescriptor yMem_reserve.desc).map (fun d => d.parameters.length) = some 1 := by decide +kernel
theorem hdMem_read : yMem_read.cls = RMem ∧ yMem_read.cls ≠ "java/lang/invoke/MethodHandle" ∧ yMem_read.cls ≠ "java/lang/invoke/VarHandle" ∧ (parseMethodDescriptor yMem_read.desc).map (fun d => d.parameters.length) = some 2 := by decide +kernel
theorem hdMem_write : yMem_write.cls = RMem ∧ yMem_write.cls ≠ "java/lang/invoke/MethodHandle" ∧ yMem_write.cls ≠ "java/lang/invoke/VarHandle" ∧ (parseMethodDescriptor yMem_write.desc).map (fun d => d.parameters.length) = some 3 := by decide +kernel
theorem hdMem_wordIndex : yMem_wordIndex.cls = RMem ∧ yMem_wordIndex.cls ≠ "java/lang/invoke/MethodHandle" ∧ yMem_wordIndex.cls ≠ "java/lang/invoke/VarHandle" ∧ (parseMethodDescriptor yMem_wordIndex.desc).map (fun d => d.parameters.length) = some 1 := by decide +kernel
theorem hdMem_shiftOf : yMem_shiftOf.cls = RMem ∧ yMem_shiftOf.cls ≠ "java/lang/invoke/MethodHandle" ∧ yMem_shiftOf.cls ≠ "java/lang/invoke/VarHandle" ∧ (parseMethodDescriptor yMem_shiftOf.desc).map (fun d => d.parameters.length) = some 1 := by decide +kernel
theorem hdMem_maskOf : yMem_maskOf.cls = RMem ∧ yMem_maskOf.cls ≠ "java/lang/invoke/MethodHandle" ∧ yMem_maskOf.cls ≠ "java/lang/invoke/VarHandle" ∧ (parseMethodDescriptor yMem_maskOf.desc).map (fun d => d.parameters.length) = some 1 := by decide +kernel
theorem hdSF_f : ySF_f.cls = RSF ∧ ySF_f.cls ≠ "java/lang/invoke/MethodHandle" ∧ ySF_f.cls ≠ "java/lang/invoke/VarHandle" ∧ (parseMethodDescriptor ySF_f.desc).map (fun d => d.parameters.length) = some 1 := by decide +kernel
theorem hdSF_bit12 : ySF_bit12.cls = RSF ∧ ySF_bit12.cls ≠ "java/lang/invoke/MethodHandle" ∧ ySF_bit12.cls ≠ "java/lang/invoke/VarHandle" ∧ (parseMethodDescriptor ySF_bit12.desc).map (fun d => d.parameters.length) = some 1 := by decide +kernel
theorem hdSF_d : ySF_d.cls = RSF ∧ ySF_d.cls ≠ "java/lang/invoke/MethodHandle" ∧ ySF_d.cls ≠ "java/lang/invoke/VarHandle" ∧ (parseMethodDescriptor ySF_d.desc).map (fun d => d.parameters.length) = some 1 := by decide +kernel
theorem hdSF_b : ySF_b.cls = RSF ∧ ySF_b.cls ≠ "java/lang/invoke/MethodHandle" ∧ ySF_b.cls ≠ "java/lang/invoke/VarHandle" ∧ (parseMethodDescriptor ySF_b.desc).map (fun d => d.parameters.length) = some 1 := by decide +kernel
theorem hdSF_lowNear : ySF_lowNear.cls = RSF ∧ ySF_lowNear.cls ≠ "java/lang/invoke/MethodHandle" ∧ ySF_lowNear.cls ≠ "java/lang/invoke/VarHandle" ∧ (parseMethodDescriptor ySF_lowNear.desc).map (fun d => d.parameters.length) = some 1 := by decide +kernel
theorem hdSF_highNear : ySF_highNear.cls = RSF ∧ ySF_highNear.cls ≠ "java/lang/invoke/MethodHandle" ∧ ySF_highNear.cls ≠ "java/lang/invoke/VarHandle" ∧ (parseMethodDescriptor ySF_highNear.desc).map (fun d => d.parameters.length) = some 1 := by decide +kernel
theorem hdSF_number : ySF_number.cls = RSF ∧ ySF_number.cls ≠ "java/lang/invoke/MethodHandle" ∧ ySF_number.cls ≠ "java/lang/invoke/VarHandle" ∧ (parseMethodDescriptor ySF_number.desc).map (fun d => d.parameters.length) = some 1 := by decide +kernel
theorem hdSF_stackNumber : ySF_stackNumber.cls = RSF ∧ ySF_stackNumber.cls ≠ "java/lang/invoke/MethodHandle" ∧ ySF_stackNumber.cls ≠ "java/lang/invoke/VarHandle" ∧ (parseMethodDescriptor ySF_stackNumber.desc).map (fun d => d.parameters.length) = some 1 := by decide +kernel
theorem hdSF_nearOffset : ySF_nearOffset.cls = RSF ∧ ySF_nearOffset.cls ≠ "java/lang/invoke/MethodHandle" ∧ ySF_nearOffset.cls ≠ "java/lang/invoke/VarHandle" ∧ (parseMethodDescriptor ySF_nearOffset.desc).map (fun d => d.parameters.length) = some 1 := by decide +kernel
theorem hdSF_offsetJ : ySF_offsetJ.cls = RSF ∧ ySF_offsetJ.cls ≠ "java/lang/invoke/MethodHandle" ∧ ySF_offsetJ.cls ≠ "java/lang/invoke/VarHandle" ∧ (parseMethodDescriptor ySF_offsetJ.desc).map (fun d => d.parameters.length) = some 1 := by decide +kernel
theorem hdSF_stackMove : ySF_stackMove.cls = RSF ∧ ySF_stackMove.cls ≠ "java/lang/invoke/MethodHandle" ∧ ySF_stackMove.cls ≠ "java/lang/invoke/VarHandle" ∧ (parseMethodDescriptor ySF_stackMove.desc).map (fun d => d.parameters.length) = some 1 := by decide +kernel
theorem hdSF_offsetT : ySF_offsetT.cls = RSF ∧ ySF_offsetT.cls ≠ "java/lang/invoke/MethodHandle" ∧ ySF_offsetT.cls ≠ "java/lang/invoke/VarHandle" ∧ (parseMethodDescriptor ySF_offsetT.desc).map (fun d => d.parameters.length) = some 1 := by decide +kernel
theorem hdSF_stackLoadOffset : ySF_stackLoadOffset.cls = RSF ∧ ySF_stackLoadOffset.cls ≠ "java/lang/invoke/MethodHandle" ∧ ySF_stackLoadOffset.cls ≠ "java/lang/invoke/VarHandle" ∧ (parseMethodDescriptor ySF_stackLoadOffset.desc).map (fun d => d.parameters.length) = some 1 := by decide +kernel
theorem hdSF_stackStoreOffset : ySF_stackStoreOffset.cls = RSF ∧ ySF_stackStoreOffset.cls ≠ "java/lang/invoke/MethodHandle" ∧ ySF_stackStoreOffset.cls ≠ "java/lang/invoke/VarHandle" ∧ (parseMethodDescriptor ySF_stackStoreOffset.desc).map (fun d => d.parameters.length) = some 1 := by decide +kernel
theorem hdLaw_poke : yLaw_poke.cls = RLaw ∧ yLaw_poke.cls ≠ "java/lang/invoke/MethodHandle" ∧ yLaw_poke.cls ≠ "java/lang/invoke/VarHandle" ∧ (parseMethodDescriptor yLaw_poke.desc).map (fun d => d.parameters.length) = some 3 := by decide +kernel
theorem hdLaw_plant : yLaw_plant.cls = RLaw ∧ yLaw_plant.cls ≠ "java/lang/invoke/MethodHandle" ∧ yLaw_plant.cls ≠ "java/lang/invoke/VarHandle" ∧ (parseMethodDescriptor yLaw_plant.desc).map (fun d => d.parameters.length) = some 3 := by decide +kernel
theorem hdLaw_peek : yLaw_peek.cls = RLaw ∧ yLaw_peek.cls ≠ "java/lang/invoke/MethodHandle" ∧ yLaw_peek.cls ≠ "java/lang/invoke/VarHandle" ∧ (parseMethodDescriptor yLaw_peek.desc).map (fun d => d.parameters.length) = some 3 := by decide +kernel
theorem hdLaw_rights : yLaw_rights.cls = RLaw ∧ yLaw_rights.cls ≠ "java/lang/invoke/MethodHandle" ∧ yLaw_rights.cls ≠ "java/lang/invoke/VarHandle" ∧ (parseMethodDescriptor yLaw_rights.desc).map (fun d => d.parameters.length) = some 4 := by decide +kernel
theorem hdLaw_set : yLaw_set.cls = RLaw ∧ yLaw_set.cls ≠ "java/lang/invoke/MethodHandle" ∧ yLaw_set.cls ≠ "java/lang/invoke/VarHandle" ∧ (parseMethodDescriptor yLaw_set.desc).map (fun d => d.parameters.length) = some 4 := by decide +kernel
theorem hdLaw_register : yLaw_register.cls = RLaw ∧ yLaw_register.cls ≠ "java/lang/invoke/MethodHandle" ∧ yLaw_register.cls ≠ "java/lang/invoke/VarHandle" ∧ (parseMethodDescriptor yLaw_register.desc).map (fun d => d.parameters.length) = some 3 := by decide +kernel
theorem hdLaw_run : yLaw_run.cls = RLaw ∧ yLaw_run.cls ≠ "java/lang/invoke/MethodHandle" ∧ yLaw_run.cls ≠ "java/lang/invoke/VarHandle" ∧ (parseMethodDescriptor yLaw_run.desc).map (fun d => d.parameters.length) = some 3 := by decide +kernel
theorem hdLaw_count : yLaw_count.cls = RLaw ∧ yLaw_count.cls ≠ "java/lang/invoke/MethodHandle" ∧ yLaw_count.cls ≠ "java/lang/invoke/VarHandle" ∧ (parseMethodDescriptor yLaw_count.desc).map (fun d => d.parameters.length) = some 3 := by decide +kernel
/-! rows of ours between the kit's and the methods': calls that change nothing, calls that change one world -/
abbrev wq (y : MethodName) (c : ByteArray) (n : Nat) (r : Option FieldType) : List Cond := Cond.code y c n r :: lw_g
theorem mk_gS {own : String} {idx : Nat} {y : MethodName} {cx cy : Cond} (h1 : Cond.methodLink own idx y ∈ lw_g) (h2 : Cond.static y ∈ lw_g) (h3 : Cond.initialized y.cls ∈ lw_g) (h4 : cy ∈ lw_g) : GoodIn (cx :: lw_g) (va_wsS own idx y (cy :: lw_g)) := by
  intro w hw
  have key : w ∈ lw_g := by
    simp only [va_wsS, List.cons_append, List.nil_append, List.mem_cons] at hw
    rcases hw with rfl | rfl | rfl | rfl | hw <;> assumption
  exact ⟨List.mem_cons_of_mem _ key, good_of_word (List.mem_filter.mp key).2⟩
theorem mk_gV {own C : String} {idx : Nat} {y : MethodName} {cx cy : Cond} (h1 : Cond.methodLink own idx y ∈ lw_g) (h2 : Cond.instanceMethod y ∈ lw_g) (h3 : Cond.selects C y y ∈ lw_g) (h4 : Cond.initialized C ∈ lw_g) (h5 : cy ∈ lw_g) : GoodIn (cx :: lw_g) (wsV own idx C y (cy :: lw_g)) := by
  intro w hw
  have key : w ∈ lw_g := by
    simp only [wsV, List.cons_append, List.nil_append, List.mem_cons] at hw
    rcases hw with rfl | rfl | rfl | rfl | rfl | hw <;> assumption
  exact ⟨List.mem_cons_of_mem _ key, good_of_word (List.mem_filter.mp key).2⟩
def ja_ushr (x y : Int32) : Int32 := (x.toUInt32 >>> (y.toUInt32 &&& Int32.toUInt32 31)).toInt32
def ja_lushr (x : Int64) (y : Int32) : Int64 := (x.toUInt64 >>> (y.toInt64.toUInt64 &&& Int64.toUInt64 63)).toInt64
def ja_lshl (x : Int64) (y : Int32) : Int64 := x <<< (y.toInt64 &&& 63)
def ja_lshr (x : Int64) (y : Int32) : Int64 := x >>> (y.toInt64 &&& 63)
def mk_P (G : Heap) (av : List Value) : Array Value → State → Prop := va_Pc av (fun U => U.heap = G)
def mk_PK (D : va_G) (cl : List vw_C) (tys : List (ClassId × FieldType)) (G : Heap) (av : List Value) : Array Value → State → Prop := va_Pc av (fun U => U.heap = G ∧ va_K D cl tys U)
def mk_Qi (G : Heap) (v : Int32) : Array Value → State → Outcome → State → Prop := va_Qi (fun r (_ : Unit) => r = v) (fun _ t => t.heap = G) (fun _ => False)
def mk_Ql (G : Heap) (v : Int64) : Array Value → State → Outcome → State → Prop := va_Ql (fun r (_ : Unit) => r = v) (fun _ t => t.heap = G) (fun _ => False)
def mk_Wi {S : Type} (B : S → Heap → Prop) (A : Nat → Prop) (v : Int32 × S) : Array Value → State → Outcome → State → Prop := va_Qi (fun r u => (r, u) = v) (fun u t => B u t.heap) A
def mk_Wl {S : Type} (B : S → Heap → Prop) (A : Nat → Prop) (v : Int64 × S) : Array Value → State → Outcome → State → Prop := va_Ql (fun r u => (r, u) = v) (fun u t => B u t.heap) A
def mk_Wv {S : Type} (B : S → Heap → Prop) (A : Nat → Prop) (v : S) : Array Value → State → Outcome → State → Prop := va_Qv (fun u => u = v) (fun u t => B u t.heap) A
theorem mk_blind {G : Heap} {av : List Value} : FrameBlind (mk_P G av) := fun _ _ _ _ q => q
theorem mk_blindK {D : va_G} {cl : List vw_C} {tys : List (ClassId × FieldType)} {G : Heap} {av : List Value} : FrameBlind (mk_PK D cl tys G av) := fun a U g mk q => ⟨q.1, q.2.1, va_K.moved (u := U) (U := U.calling g mk a) (Vm.Alike.refl U.vm) q.2.2⟩
theorem mk_preS {s : State} {H : Heap} {As : List Value} : PreS s H (mk_P H As) As := ⟨mk_blind, fun _ hU _ => ⟨rfl, hU⟩⟩
theorem mk_preSK {s : State} {H : Heap} {D : va_G} {cl : List vw_C} {tys : List (ClassId × FieldType)} {As : List Value} (hK : va_K D cl tys s) : PreS s H (mk_PK D cl tys H As) As := ⟨mk_blindK, fun _ hU hW => ⟨rfl, hU, va_K.moved hW.alike hK⟩⟩
theorem mk_preVK {s : State} {H : Heap} {D : va_G} {cl : List vw_C} {tys : List (ClassId × FieldType)} {As : List Value} {C : String} {b : Addr} (hK : va_K D cl tys s) (hr : ∃ cellB : Cell, H[b]? = some cellB ∧ cellB.vm.isStatics = false ∧ s.vm.findClass C = some cellB.cls) : PreV s H C b (mk_PK D cl tys H (.ref b :: As)) As := ⟨mk_blindK, hr, fun _ hU hW => ⟨rfl, hU, va_K.moved hW.alike hK⟩⟩
theorem mk_F {A : Nat → Prop} {s t : State} (ht : t.heap = s.heap) : va_F A s t := ⟨Nat.le_of_eq (by rw [ht]), fun q _ _ => by rw [ht]⟩
section MK
variable {p : Program} {l : Launch} {e : Env} {R : Room} {s : State} {m : MethodId} {args : Array Value} {below : List Frame} {meth : Method} {c : Code} {H : Heap} {locs : List Loc} {cells slots : Nat} {Q : State → Prop}
variable {pc : Nat} {ls : Array Slot} {rest st0 : List Value} {a : Array Value}
theorem mk_callR {v : Int32} (hr : va_Run p l e R s m args below meth c H locs cells slots 0 0 (F0 m pc ls st0) rest (mk_Qi H v a) (fun _ => False)) (kk : W p l e R s m args below meth c H locs cells slots Q (F0 m (pc + 3) ls (.int v :: rest))) : W p l e R s m args below meth c H locs cells slots Q (F0 m pc ls st0) := by
  intro T hT X
  obtain ⟨v', st₀, t, T', L, h0, X', hL, e1, e2, ⟨⟨r, u, hv, hp, hb⟩, hF⟩, st⟩ := hr T hT X
  cases hv
  have hL0 : L = [] := by
    cases L with
    | nil => rfl
    | cons q _ => exact (hL q List.mem_cons_self).elim
  subst hL0
  rw [List.append_nil] at X'
  subst hp
  obtain ⟨t2, a1, b1⟩ := kk T' (e1.trans hb) X'
  exact ⟨t2, st t2 a1, b1⟩
theorem mk_callRl {v : Int64} (hr : va_Run p l e R s m args below meth c H locs cells slots 0 0 (F0 m pc ls st0) rest (mk_Ql H v a) (fun _ => False)) (kk : W p l e R s m args below meth c H locs cells slots Q (F0 m (pc + 3) ls (.long v :: rest))) : W p l e R s m args below meth c H locs cells slots Q (F0 m pc ls st0) := by
  intro T hT X
  obtain ⟨v', st₀, t, T', L, h0, X', hL, e1, e2, ⟨⟨r, u, hv, hp, hb⟩, hF⟩, st⟩ := hr T hT X
  cases hv
  have hL0 : L = [] := by
    cases L with
    | nil => rfl
    | cons q _ => exact (hL q List.mem_cons_self).elim
  subst hL0
  rw [List.append_nil] at X'
  subst hp
  obtain ⟨t2, a1, b1⟩ := kk T' (e1.trans hb) X'
  exact ⟨t2, st t2 a1, b1⟩
theorem mk_callW {S : Type} {B : S → Heap → Prop} {A : Nat → Prop} {H0 : Heap} {v : Int32 × S} (hr : va_Run p l e R s m args below meth c H locs cells slots 0 0 (F0 m pc ls st0) rest (mk_Wi B A v a) A) (hS : va_S A H0 H locs)
    (kk : ∀ (H1 : Heap) (locs1 : List Loc), B v.2 H1 → va_S A H0 H1 locs1 → W p l e R s m args below meth c H1 locs1 cells slots Q (F0 m (pc + 3) ls (.int v.1 :: rest))) : W p l e R s m args below meth c H locs cells slots Q (F0 m pc ls st0) := by
  refine va_calli (post := fun r u => (r, u) = v) (B := fun u t => B u t.heap) hr hS (fun _ _ h => h) (fun _ h => h) (fun r u t H1 locs1 ht _ hw hB _ _ hS1 => ?_)
  have h1 : v = (r, u) := hw.symm
  subst h1
  rw [ht] at hB
  exact kk H1 locs1 hB hS1
theorem mk_callWl {S : Type} {B : S → Heap → Prop} {A : Nat → Prop} {H0 : Heap} {v : Int64 × S} (hr : va_Run p l e R s m args below meth c H locs cells slots 0 0 (F0 m pc ls st0) rest (mk_Wl B A v a) A) (hS : va_S A H0 H locs)
    (kk : ∀ (H1 : Heap) (locs1 : List Loc), B v.2 H1 → va_S A H0 H1 locs1 → W p l e R s m args below meth c H1 locs1 cells slots Q (F0 m (pc + 3) ls (.long v.1 :: rest))) : W p l e R s m args below meth c H locs cells slots Q (F0 m pc ls st0) := by
  refine va_calll (post := fun r u => (r, u) = v) (B := fun u t => B u t.heap) hr hS (fun _ _ h => h) (fun _ h => h) (fun r u t H1 locs1 ht _ hw hB _ _ hS1 => ?_)
  have h1 : v = (r, u) := hw.symm
  subst h1
  rw [ht] at hB
  exact kk H1 locs1 hB hS1
theorem mk_callWv {S : Type} {B : S → Heap → Prop} {A : Nat → Prop} {H0 : Heap} {v : S} (hr : va_Run p l e R s m args below meth c H locs cells slots 0 0 (F0 m pc ls st0) rest (mk_Wv B A v a) A) (hS : va_S A H0 H locs)
    (kk : ∀ (H1 : Heap) (locs1 : List Loc), B v H1 → va_S A H0 H1 locs1 → W p l e R s m args below meth c H1 locs1 cells slots Q (F0 m (pc + 3) ls rest)) : W p l e R s m args below meth c H locs cells slots Q (F0 m pc ls st0) := by
  refine va_callv (post := fun u => u = v) (B := fun u t => B u t.heap) hr hS (fun _ _ h => h) (fun _ h => h) (fun u t H1 locs1 ht _ hw hB _ _ hS1 => ?_)
  subst hw
  rw [ht] at hB
  exact kk H1 locs1 hB hS1
theorem mk_table {cc : ByteArray} (hexec : p.tables.exec = Jvm.exec) (hb : c.code = cc) {dflt lo hi : Int} {offs : Array Int} {len : Nat} {x : Int32} {tgt : Nat} (hdg : decode cc pc = .ok (.tableswitch dflt lo hi offs, len)) (h : x.toInt < lo ∨ hi < x.toInt ∨ offs[(x.toInt - lo).toNat]? = some dflt) (ht : (pc : Int) + dflt = (tgt : Int))
    (k : W p l e R s m args below meth c H locs cells slots Q (F0 m tgt ls rest)) : W p l e R s m args below meth c H locs cells slots Q (F0 m pc ls (.int x :: rest)) := by
  by_cases h1 : x.toInt < lo
  · exact lv_tableOut hexec hb hdg (Or.inl h1) ht k
  · by_cases h2 : hi < x.toInt
    · exact lv_tableOut hexec hb hdg (Or.inr h2) ht k
    · rcases h with h | h | h
      · exact absurd h h1
      · exact absurd h h2
      · exact lv_tableIn hexec hb hdg h1 h2 h ht k
end MK
theorem mk_gap {offs : Array Int} {lo hi dflt x : Int} {N : Nat} (L : List Nat) (h : ∀ n, n < N → n ∉ L → offs[n]? = some dflt) (hN : hi < lo + N) (hP : ∀ n : Nat, x = lo + n → n ∉ L) : x < lo ∨ hi < x ∨ offs[(x - lo).toNat]? = some dflt := by
  by_cases h1 : x < lo
  · exact Or.inl h1
  · by_cases h2 : hi < x
    · exact Or.inr (Or.inl h2)
    · exact Or.inr (Or.inr (h _ (by omega) (hP _ (by omega))))
