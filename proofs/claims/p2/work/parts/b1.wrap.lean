theorem hd_X12_feed : yX12_feed.cls = RX12 ∧ yX12_feed.cls ≠ "java/lang/invoke/MethodHandle" ∧ yX12_feed.cls ≠ "java/lang/invoke/VarHandle" ∧ (parseMethodDescriptor yX12_feed.desc).map (fun d => d.parameters.length) = some 2 := by decide +kernel
theorem wcL_7 : ∀ w ∈ [Cond.methodLink RL 7 yX12_feed, .instanceMethod yX12_feed, .selects RX12 yX12_feed yX12_feed, .initialized RX12, .code yX12_feed cX12_feed 5 (some .int)], w ∈ WAL := List.forall_mem_cons.mpr ⟨List.mem_filter.mpr ⟨tb_3 _ (List.mem_of_getElem? (i := 201) rfl), rfl⟩, List.forall_mem_cons.mpr ⟨List.mem_filter.mpr ⟨tb_3 _ (List.mem_of_getElem? (i := 202) rfl), rfl⟩, List.forall_mem_cons.mpr ⟨List.mem_filter.mpr ⟨tb_3 _ (List.mem_of_getElem? (i := 203) rfl), rfl⟩, List.forall_mem_cons.mpr ⟨List.mem_filter.mpr ⟨tb_1 _ (List.mem_of_getElem? (i := 1) rfl), rfl⟩, List.forall_mem_cons.mpr ⟨List.mem_filter.mpr ⟨tb_3 _ (List.mem_of_getElem? (i := 204) rfl), rfl⟩, (fun _ h => nomatch h)⟩⟩⟩⟩⟩
theorem wlL_13 : Cond.classLink RL 13 "java/lang/IllegalArgumentException" ∈ WAL := List.mem_filter.mpr ⟨tb_3 _ (List.mem_of_getElem? (i := 199) rfl), rfl⟩
theorem wlL_15 : Cond.classLink RL 15 "java/lang/UnsupportedOperationException" ∈ WAL := List.mem_filter.mpr ⟨tb_3 _ (List.mem_of_getElem? (i := 200) rfl), rfl⟩
theorem hd_X12_job : yX12_job.cls = RX12 ∧ yX12_job.cls ≠ "java/lang/invoke/MethodHandle" ∧ yX12_job.cls ≠ "java/lang/invoke/VarHandle" ∧ (parseMethodDescriptor yX12_job.desc).map (fun d => d.parameters.length) = some 0 := by decide +kernel
theorem wcL_17 : ∀ w ∈ [Cond.methodLink RL 17 yX12_job, .instanceMethod yX12_job, .selects RX12 yX12_job yX12_job, .initialized RX12, .code yX12_job cX12_job 3 (some .int)], w ∈ WAL := List.forall_mem_cons.mpr ⟨List.mem_filter.mpr ⟨tb_4 _ (List.mem_of_getElem? (i := 51) rfl), rfl⟩, List.forall_mem_cons.mpr ⟨List.mem_filter.mpr ⟨tb_4 _ (List.mem_of_getElem? (i := 52) rfl), rfl⟩, List.forall_mem_cons.mpr ⟨List.mem_filter.mpr ⟨tb_4 _ (List.mem_of_getElem? (i := 53) rfl), rfl⟩, List.forall_mem_cons.mpr ⟨List.mem_filter.mpr ⟨tb_1 _ (List.mem_of_getElem? (i := 1) rfl), rfl⟩, List.forall_mem_cons.mpr ⟨List.mem_filter.mpr ⟨tb_4 _ (List.mem_of_getElem? (i := 54) rfl), rfl⟩, (fun _ h => nomatch h)⟩⟩⟩⟩⟩
theorem wlL_21 : Cond.classLink RL 21 "java/lang/IllegalStateException" ∈ WAL := List.mem_filter.mpr ⟨tb_4 _ (List.mem_of_getElem? (i := 50) rfl), rfl⟩
theorem hd_X12_operator : yX12_operator.cls = RX12 ∧ yX12_operator.cls ≠ "java/lang/invoke/MethodHandle" ∧ yX12_operator.cls ≠ "java/lang/invoke/VarHandle" ∧ (parseMethodDescriptor yX12_operator.desc).map (fun d => d.parameters.length) = some 2 := by decide +kernel
theorem wcL_23 : ∀ w ∈ [Cond.methodLink RL 23 yX12_operator, .instanceMethod yX12_operator, .selects RX12 yX12_operator yX12_operator, .initialized RX12, .code yX12_operator cX12_operator 4 (some .long)], w ∈ WAL := List.forall_mem_cons.mpr ⟨List.mem_filter.mpr ⟨tb_5 _ (List.mem_of_getElem? (i := 63) rfl), rfl⟩, List.forall_mem_cons.mpr ⟨List.mem_filter.mpr ⟨tb_5 _ (List.mem_of_getElem? (i := 64) rfl), rfl⟩, List.forall_mem_cons.mpr ⟨List.mem_filter.mpr ⟨tb_5 _ (List.mem_of_getElem? (i := 65) rfl), rfl⟩, List.forall_mem_cons.mpr ⟨List.mem_filter.mpr ⟨tb_1 _ (List.mem_of_getElem? (i := 1) rfl), rfl⟩, List.forall_mem_cons.mpr ⟨List.mem_filter.mpr ⟨tb_5 _ (List.mem_of_getElem? (i := 66) rfl), rfl⟩, (fun _ h => nomatch h)⟩⟩⟩⟩⟩
theorem wlL_27 : Cond.classLink RL 27 "java/lang/IndexOutOfBoundsException" ∈ WAL := List.mem_filter.mpr ⟨tb_5 _ (List.mem_of_getElem? (i := 62) rfl), rfl⟩
theorem hd_X12_give : yX12_give.cls = RX12 ∧ yX12_give.cls ≠ "java/lang/invoke/MethodHandle" ∧ yX12_give.cls ≠ "java/lang/invoke/VarHandle" ∧ (parseMethodDescriptor yX12_give.desc).map (fun d => d.parameters.length) = some 6 := by decide +kernel
theorem wcL_29 : ∀ w ∈ [Cond.methodLink RL 29 yX12_give, .instanceMethod yX12_give, .selects RX12 yX12_give yX12_give, .initialized RX12, .code yX12_give cX12_give 14 (some .int)], w ∈ WAL := List.forall_mem_cons.mpr ⟨List.mem_filter.mpr ⟨tb_5 _ (List.mem_of_getElem? (i := 85) rfl), rfl⟩, List.forall_mem_cons.mpr ⟨List.mem_filter.mpr ⟨tb_5 _ (List.mem_of_getElem? (i := 86) rfl), rfl⟩, List.forall_mem_cons.mpr ⟨List.mem_filter.mpr ⟨tb_5 _ (List.mem_of_getElem? (i := 87) rfl), rfl⟩, List.forall_mem_cons.mpr ⟨List.mem_filter.mpr ⟨tb_1 _ (List.mem_of_getElem? (i := 1) rfl), rfl⟩, List.forall_mem_cons.mpr ⟨List.mem_filter.mpr ⟨tb_5 _ (List.mem_of_getElem? (i := 88) rfl), rfl⟩, (fun _ h => nomatch h)⟩⟩⟩⟩⟩
theorem hd_X12_close : yX12_close.cls = RX12 ∧ yX12_close.cls ≠ "java/lang/invoke/MethodHandle" ∧ yX12_close.cls ≠ "java/lang/invoke/VarHandle" ∧ (parseMethodDescriptor yX12_close.desc).map (fun d => d.parameters.length) = some 1 := by decide +kernel
theorem wcL_33 : ∀ w ∈ [Cond.methodLink RL 33 yX12_close, .instanceMethod yX12_close, .selects RX12 yX12_close yX12_close, .initialized RX12, .code yX12_close cX12_close 3 (some .boolean)], w ∈ WAL := List.forall_mem_cons.mpr ⟨List.mem_filter.mpr ⟨tb_5 _ (List.mem_of_getElem? (i := 93) rfl), rfl⟩, List.forall_mem_cons.mpr ⟨List.mem_filter.mpr ⟨tb_5 _ (List.mem_of_getElem? (i := 94) rfl), rfl⟩, List.forall_mem_cons.mpr ⟨List.mem_filter.mpr ⟨tb_5 _ (List.mem_of_getElem? (i := 95) rfl), rfl⟩, List.forall_mem_cons.mpr ⟨List.mem_filter.mpr ⟨tb_1 _ (List.mem_of_getElem? (i := 1) rfl), rfl⟩, List.forall_mem_cons.mpr ⟨List.mem_filter.mpr ⟨tb_5 _ (List.mem_of_getElem? (i := 96) rfl), rfl⟩, (fun _ h => nomatch h)⟩⟩⟩⟩⟩
theorem hd_X12_start : yX12_start.cls = RX12 ∧ yX12_start.cls ≠ "java/lang/invoke/MethodHandle" ∧ yX12_start.cls ≠ "java/lang/invoke/VarHandle" ∧ (parseMethodDescriptor yX12_start.desc).map (fun d => d.parameters.length) = some 3 := by decide +kernel
theorem wcL_37 : ∀ w ∈ [Cond.methodLink RL 37 yX12_start, .instanceMethod yX12_start, .selects RX12 yX12_start yX12_start, .initialized RX12, .code yX12_start cX12_start 5 (some .int)], w ∈ WAL := List.forall_mem_cons.mpr ⟨List.mem_filter.mpr ⟨tb_5 _ (List.mem_of_getElem? (i := 100) rfl), rfl⟩, List.forall_mem_cons.mpr ⟨List.mem_filter.mpr ⟨tb_5 _ (List.mem_of_getElem? (i := 101) rfl), rfl⟩, List.forall_mem_cons.mpr ⟨List.mem_filter.mpr ⟨tb_5 _ (List.mem_of_getElem? (i := 102) rfl), rfl⟩, List.forall_mem_cons.mpr ⟨List.mem_filter.mpr ⟨tb_1 _ (List.mem_of_getElem? (i := 1) rfl), rfl⟩, List.forall_mem_cons.mpr ⟨List.mem_filter.mpr ⟨tb_5 _ (List.mem_of_getElem? (i := 103) rfl), rfl⟩, (fun _ h => nomatch h)⟩⟩⟩⟩⟩
theorem hd_X12_turn : yX12_turn.cls = RX12 ∧ yX12_turn.cls ≠ "java/lang/invoke/MethodHandle" ∧ yX12_turn.cls ≠ "java/lang/invoke/VarHandle" ∧ (parseMethodDescriptor yX12_turn.desc).map (fun d => d.parameters.length) = some 1 := by decide +kernel
theorem wcL_41 : ∀ w ∈ [Cond.methodLink RL 41 yX12_turn, .instanceMethod yX12_turn, .selects RX12 yX12_turn yX12_turn, .initialized RX12, .code yX12_turn cX12_turn 4 (some .int)], w ∈ WAL := List.forall_mem_cons.mpr ⟨List.mem_filter.mpr ⟨tb_5 _ (List.mem_of_getElem? (i := 180) rfl), rfl⟩, List.forall_mem_cons.mpr ⟨List.mem_filter.mpr ⟨tb_5 _ (List.mem_of_getElem? (i := 181) rfl), rfl⟩, List.forall_mem_cons.mpr ⟨List.mem_filter.mpr ⟨tb_5 _ (List.mem_of_getElem? (i := 182) rfl), rfl⟩, List.forall_mem_cons.mpr ⟨List.mem_filter.mpr ⟨tb_1 _ (List.mem_of_getElem? (i := 1) rfl), rfl⟩, List.forall_mem_cons.mpr ⟨List.mem_filter.mpr ⟨tb_5 _ (List.mem_of_getElem? (i := 183) rfl), rfl⟩, (fun _ h => nomatch h)⟩⟩⟩⟩⟩
theorem hd_X12_mark : yX12_mark.cls = RX12 ∧ yX12_mark.cls ≠ "java/lang/invoke/MethodHandle" ∧ yX12_mark.cls ≠ "java/lang/invoke/VarHandle" ∧ (parseMethodDescriptor yX12_mark.desc).map (fun d => d.parameters.length) = some 0 := by decide +kernel
theorem wcL_45 : ∀ w ∈ [Cond.methodLink RL 45 yX12_mark, .instanceMethod yX12_mark, .selects RX12 yX12_mark yX12_mark, .initialized RX12, .code yX12_mark cX12_mark 1 (some .int)], w ∈ WAL := List.forall_mem_cons.mpr ⟨List.mem_filter.mpr ⟨tb_7 _ (List.mem_of_getElem? (i := 90) rfl), rfl⟩, List.forall_mem_cons.mpr ⟨List.mem_filter.mpr ⟨tb_7 _ (List.mem_of_getElem? (i := 91) rfl), rfl⟩, List.forall_mem_cons.mpr ⟨List.mem_filter.mpr ⟨tb_7 _ (List.mem_of_getElem? (i := 92) rfl), rfl⟩, List.forall_mem_cons.mpr ⟨List.mem_filter.mpr ⟨tb_1 _ (List.mem_of_getElem? (i := 1) rfl), rfl⟩, List.forall_mem_cons.mpr ⟨List.mem_filter.mpr ⟨tb_7 _ (List.mem_of_getElem? (i := 93) rfl), rfl⟩, (fun _ h => nomatch h)⟩⟩⟩⟩⟩
theorem hd_X12_fail : yX12_fail.cls = RX12 ∧ yX12_fail.cls ≠ "java/lang/invoke/MethodHandle" ∧ yX12_fail.cls ≠ "java/lang/invoke/VarHandle" ∧ (parseMethodDescriptor yX12_fail.desc).map (fun d => d.parameters.length) = some 0 := by decide +kernel
theorem wcL_48 : ∀ w ∈ [Cond.methodLink RL 48 yX12_fail, .instanceMethod yX12_fail, .selects RX12 yX12_fail yX12_fail, .initialized RX12, .code yX12_fail cX12_fail 1 (some .int)], w ∈ WAL := List.forall_mem_cons.mpr ⟨List.mem_filter.mpr ⟨tb_7 _ (List.mem_of_getElem? (i := 101) rfl), rfl⟩, List.forall_mem_cons.mpr ⟨List.mem_filter.mpr ⟨tb_7 _ (List.mem_of_getElem? (i := 102) rfl), rfl⟩, List.forall_mem_cons.mpr ⟨List.mem_filter.mpr ⟨tb_7 _ (List.mem_of_getElem? (i := 103) rfl), rfl⟩, List.forall_mem_cons.mpr ⟨List.mem_filter.mpr ⟨tb_1 _ (List.mem_of_getElem? (i := 1) rfl), rfl⟩, List.forall_mem_cons.mpr ⟨List.mem_filter.mpr ⟨tb_7 _ (List.mem_of_getElem? (i := 104) rfl), rfl⟩, (fun _ h => nomatch h)⟩⟩⟩⟩⟩
theorem hd_X12_rescale : yX12_rescale.cls = RX12 ∧ yX12_rescale.cls ≠ "java/lang/invoke/MethodHandle" ∧ yX12_rescale.cls ≠ "java/lang/invoke/VarHandle" ∧ (parseMethodDescriptor yX12_rescale.desc).map (fun d => d.parameters.length) = some 1 := by decide +kernel
theorem wcL_51 : ∀ w ∈ [Cond.methodLink RL 51 yX12_rescale, .instanceMethod yX12_rescale, .selects RX12 yX12_rescale yX12_rescale, .initialized RX12, .code yX12_rescale cX12_rescale 2 (some .int)], w ∈ WAL := List.forall_mem_cons.mpr ⟨List.mem_filter.mpr ⟨tb_7 _ (List.mem_of_getElem? (i := 127) rfl), rfl⟩, List.forall_mem_cons.mpr ⟨List.mem_filter.mpr ⟨tb_7 _ (List.mem_of_getElem? (i := 128) rfl), rfl⟩, List.forall_mem_cons.mpr ⟨List.mem_filter.mpr ⟨tb_7 _ (List.mem_of_getElem? (i := 129) rfl), rfl⟩, List.forall_mem_cons.mpr ⟨List.mem_filter.mpr ⟨tb_1 _ (List.mem_of_getElem? (i := 1) rfl), rfl⟩, List.forall_mem_cons.mpr ⟨List.mem_filter.mpr ⟨tb_7 _ (List.mem_of_getElem? (i := 130) rfl), rfl⟩, (fun _ h => nomatch h)⟩⟩⟩⟩⟩
theorem hd_X12_crash : yX12_crash.cls = RX12 ∧ yX12_crash.cls ≠ "java/lang/invoke/MethodHandle" ∧ yX12_crash.cls ≠ "java/lang/invoke/VarHandle" ∧ (parseMethodDescriptor yX12_crash.desc).map (fun d => d.parameters.length) = some 1 := by decide +kernel
theorem wcL_54 : ∀ w ∈ [Cond.methodLink RL 54 yX12_crash, .instanceMethod yX12_crash, .selects RX12 yX12_crash yX12_crash, .initialized RX12, .code yX12_crash cX12_crash 2 none], w ∈ WAL := List.forall_mem_cons.mpr ⟨List.mem_filter.mpr ⟨tb_7 _ (List.mem_of_getElem? (i := 134) rfl), rfl⟩, List.forall_mem_cons.mpr ⟨List.mem_filter.mpr ⟨tb_7 _ (List.mem_of_getElem? (i := 135) rfl), rfl⟩, List.forall_mem_cons.mpr ⟨List.mem_filter.mpr ⟨tb_7 _ (List.mem_of_getElem? (i := 136) rfl), rfl⟩, List.forall_mem_cons.mpr ⟨List.mem_filter.mpr ⟨tb_1 _ (List.mem_of_getElem? (i := 1) rfl), rfl⟩, List.forall_mem_cons.mpr ⟨List.mem_filter.mpr ⟨tb_7 _ (List.mem_of_getElem? (i := 137) rfl), rfl⟩, (fun _ h => nomatch h)⟩⟩⟩⟩⟩
theorem hd_X12_reopen : yX12_reopen.cls = RX12 ∧ yX12_reopen.cls ≠ "java/lang/invoke/MethodHandle" ∧ yX12_reopen.cls ≠ "java/lang/invoke/VarHandle" ∧ (parseMethodDescriptor yX12_reopen.desc).map (fun d => d.parameters.length) = some 0 := by decide +kernel
theorem wcL_58 : ∀ w ∈ [Cond.methodLink RL 58 yX12_reopen, .instanceMethod yX12_reopen, .selects RX12 yX12_reopen yX12_reopen, .initialized RX12, .code yX12_reopen cX12_reopen 1 (some .int)], w ∈ WAL := List.forall_mem_cons.mpr ⟨List.mem_filter.mpr ⟨tb_7 _ (List.mem_of_getElem? (i := 141) rfl), rfl⟩, List.forall_mem_cons.mpr ⟨List.mem_filter.mpr ⟨tb_7 _ (List.mem_of_getElem? (i := 142) rfl), rfl⟩, List.forall_mem_cons.mpr ⟨List.mem_filter.mpr ⟨tb_7 _ (List.mem_of_getElem? (i := 143) rfl), rfl⟩, List.forall_mem_cons.mpr ⟨List.mem_filter.mpr ⟨tb_1 _ (List.mem_of_getElem? (i := 1) rfl), rfl⟩, List.forall_mem_cons.mpr ⟨List.mem_filter.mpr ⟨tb_7 _ (List.mem_of_getElem? (i := 144) rfl), rfl⟩, (fun _ h => nomatch h)⟩⟩⟩⟩⟩
theorem hd_X12_visible : yX12_visible.cls = RX12 ∧ yX12_visible.cls ≠ "java/lang/invoke/MethodHandle" ∧ yX12_visible.cls ≠ "java/lang/invoke/VarHandle" ∧ (parseMethodDescriptor yX12_visible.desc).map (fun d => d.parameters.length) = some 1 := by decide +kernel
theorem wcL_61 : ∀ w ∈ [Cond.methodLink RL 61 yX12_visible, .instanceMethod yX12_visible, .selects RX12 yX12_visible yX12_visible, .initialized RX12, .code yX12_visible cX12_visible 2 (some .int)], w ∈ WAL := List.forall_mem_cons.mpr ⟨List.mem_filter.mpr ⟨tb_7 _ (List.mem_of_getElem? (i := 148) rfl), rfl⟩, List.forall_mem_cons.mpr ⟨List.mem_filter.mpr ⟨tb_7 _ (List.mem_of_getElem? (i := 149) rfl), rfl⟩, List.forall_mem_cons.mpr ⟨List.mem_filter.mpr ⟨tb_7 _ (List.mem_of_getElem? (i := 150) rfl), rfl⟩, List.forall_mem_cons.mpr ⟨List.mem_filter.mpr ⟨tb_1 _ (List.mem_of_getElem? (i := 1) rfl), rfl⟩, List.forall_mem_cons.mpr ⟨List.mem_filter.mpr ⟨tb_7 _ (List.mem_of_getElem? (i := 151) rfl), rfl⟩, (fun _ h => nomatch h)⟩⟩⟩⟩⟩
theorem hd_X12_row : yX12_row.cls = RX12 ∧ yX12_row.cls ≠ "java/lang/invoke/MethodHandle" ∧ yX12_row.cls ≠ "java/lang/invoke/VarHandle" ∧ (parseMethodDescriptor yX12_row.desc).map (fun d => d.parameters.length) = some 3 := by decide +kernel
theorem wcL_64 : ∀ w ∈ [Cond.methodLink RL 64 yX12_row, .instanceMethod yX12_row, .selects RX12 yX12_row yX12_row, .initialized RX12, .code yX12_row cX12_row 5 (some .long)], w ∈ WAL := List.forall_mem_cons.mpr ⟨List.mem_filter.mpr ⟨tb_7 _ (List.mem_of_getElem? (i := 159) rfl), rfl⟩, List.forall_mem_cons.mpr ⟨List.mem_filter.mpr ⟨tb_7 _ (List.mem_of_getElem? (i := 160) rfl), rfl⟩, List.forall_mem_cons.mpr ⟨List.mem_filter.mpr ⟨tb_7 _ (List.mem_of_getElem? (i := 161) rfl), rfl⟩, List.forall_mem_cons.mpr ⟨List.mem_filter.mpr ⟨tb_1 _ (List.mem_of_getElem? (i := 1) rfl), rfl⟩, List.forall_mem_cons.mpr ⟨List.mem_filter.mpr ⟨tb_7 _ (List.mem_of_getElem? (i := 162) rfl), rfl⟩, (fun _ h => nomatch h)⟩⟩⟩⟩⟩
theorem hd_X12_lineage : yX12_lineage.cls = RX12 ∧ yX12_lineage.cls ≠ "java/lang/invoke/MethodHandle" ∧ yX12_lineage.cls ≠ "java/lang/invoke/VarHandle" ∧ (parseMethodDescriptor yX12_lineage.desc).map (fun d => d.parameters.length) = some 3 := by decide +kernel
theorem wcL_68 : ∀ w ∈ [Cond.methodLink RL 68 yX12_lineage, .instanceMethod yX12_lineage, .selects RX12 yX12_lineage yX12_lineage, .initialized RX12, .code yX12_lineage cX12_lineage 6 (some .int)], w ∈ WAL := List.forall_mem_cons.mpr ⟨List.mem_filter.mpr ⟨tb_7 _ (List.mem_of_getElem? (i := 175) rfl), rfl⟩, List.forall_mem_cons.mpr ⟨List.mem_filter.mpr ⟨tb_7 _ (List.mem_of_getElem? (i := 176) rfl), rfl⟩, List.forall_mem_cons.mpr ⟨List.mem_filter.mpr ⟨tb_7 _ (List.mem_of_getElem? (i := 177) rfl), rfl⟩, List.forall_mem_cons.mpr ⟨List.mem_filter.mpr ⟨tb_1 _ (List.mem_of_getElem? (i := 1) rfl), rfl⟩, List.forall_mem_cons.mpr ⟨List.mem_filter.mpr ⟨tb_7 _ (List.mem_of_getElem? (i := 178) rfl), rfl⟩, (fun _ h => nomatch h)⟩⟩⟩⟩⟩
theorem hd_X12_onePass : yX12_onePass.cls = RX12 ∧ yX12_onePass.cls ≠ "java/lang/invoke/MethodHandle" ∧ yX12_onePass.cls ≠ "java/lang/invoke/VarHandle" ∧ (parseMethodDescriptor yX12_onePass.desc).map (fun d => d.parameters.length) = some 0 := by decide +kernel
theorem wcL_72 : ∀ w ∈ [Cond.methodLink RL 72 yX12_onePass, .instanceMethod yX12_onePass, .selects RX12 yX12_onePass yX12_onePass, .initialized RX12, .code yX12_onePass cX12_onePass 2 (some .boolean)], w ∈ WAL := List.forall_mem_cons.mpr ⟨List.mem_filter.mpr ⟨tb_7 _ (List.mem_of_getElem? (i := 196) rfl), rfl⟩, List.forall_mem_cons.mpr ⟨List.mem_filter.mpr ⟨tb_7 _ (List.mem_of_getElem? (i := 197) rfl), rfl⟩, List.forall_mem_cons.mpr ⟨List.mem_filter.mpr ⟨tb_7 _ (List.mem_of_getElem? (i := 198) rfl), rfl⟩, List.forall_mem_cons.mpr ⟨List.mem_filter.mpr ⟨tb_1 _ (List.mem_of_getElem? (i := 1) rfl), rfl⟩, List.forall_mem_cons.mpr ⟨List.mem_filter.mpr ⟨tb_7 _ (List.mem_of_getElem? (i := 199) rfl), rfl⟩, (fun _ h => nomatch h)⟩⟩⟩⟩⟩
theorem hd_X12_task : yX12_task.cls = RX12 ∧ yX12_task.cls ≠ "java/lang/invoke/MethodHandle" ∧ yX12_task.cls ≠ "java/lang/invoke/VarHandle" ∧ (parseMethodDescriptor yX12_task.desc).map (fun d => d.parameters.length) = some 2 := by decide +kernel
theorem wcL_76 : ∀ w ∈ [Cond.methodLink RL 76 yX12_task, .instanceMethod yX12_task, .selects RX12 yX12_task yX12_task, .initialized RX12, .code yX12_task cX12_task 3 (some .long)], w ∈ WAL := List.forall_mem_cons.mpr ⟨List.mem_filter.mpr ⟨tb_8 _ (List.mem_of_getElem? (i := 8) rfl), rfl⟩, List.forall_mem_cons.mpr ⟨List.mem_filter.mpr ⟨tb_8 _ (List.mem_of_getElem? (i := 9) rfl), rfl⟩, List.forall_mem_cons.mpr ⟨List.mem_filter.mpr ⟨tb_8 _ (List.mem_of_getElem? (i := 10) rfl), rfl⟩, List.forall_mem_cons.mpr ⟨List.mem_filter.mpr ⟨tb_1 _ (List.mem_of_getElem? (i := 1) rfl), rfl⟩, List.forall_mem_cons.mpr ⟨List.mem_filter.mpr ⟨tb_8 _ (List.mem_of_getElem? (i := 11) rfl), rfl⟩, (fun _ h => nomatch h)⟩⟩⟩⟩⟩
theorem hd_X12_channel : yX12_channel.cls = RX12 ∧ yX12_channel.cls ≠ "java/lang/invoke/MethodHandle" ∧ yX12_channel.cls ≠ "java/lang/invoke/VarHandle" ∧ (parseMethodDescriptor yX12_channel.desc).map (fun d => d.parameters.length) = some 2 := by decide +kernel
theorem wcL_79 : ∀ w ∈ [Cond.methodLink RL 79 yX12_channel, .instanceMethod yX12_channel, .selects RX12 yX12_channel yX12_channel, .initialized RX12, .code yX12_channel cX12_channel 3 (some .long)], w ∈ WAL := List.forall_mem_cons.mpr ⟨List.mem_filter.mpr ⟨tb_8 _ (List.mem_of_getElem? (i := 23) rfl), rfl⟩, List.forall_mem_cons.mpr ⟨List.mem_filter.mpr ⟨tb_8 _ (List.mem_of_getElem? (i := 24) rfl), rfl⟩, List.forall_mem_cons.mpr ⟨List.mem_filter.mpr ⟨tb_8 _ (List.mem_of_getElem? (i := 25) rfl), rfl⟩, List.forall_mem_cons.mpr ⟨List.mem_filter.mpr ⟨tb_1 _ (List.mem_of_getElem? (i := 1) rfl), rfl⟩, List.forall_mem_cons.mpr ⟨List.mem_filter.mpr ⟨tb_8 _ (List.mem_of_getElem? (i := 26) rfl), rfl⟩, (fun _ h => nomatch h)⟩⟩⟩⟩⟩
theorem hd_X12_records : yX12_records.cls = RX12 ∧ yX12_records.cls ≠ "java/lang/invoke/MethodHandle" ∧ yX12_records.cls ≠ "java/lang/invoke/VarHandle" ∧ (parseMethodDescriptor yX12_records.desc).map (fun d => d.parameters.length) = some 2 := by decide +kernel
theorem wcL_82 : ∀ w ∈ [Cond.methodLink RL 82 yX12_records, .instanceMethod yX12_records, .selects RX12 yX12_records yX12_records, .initialized RX12, .code yX12_records cX12_records 4 (some .int)], w ∈ WAL := List.forall_mem_cons.mpr ⟨List.mem_filter.mpr ⟨tb_8 _ (List.mem_of_getElem? (i := 34) rfl), rfl⟩, List.forall_mem_cons.mpr ⟨List.mem_filter.mpr ⟨tb_8 _ (List.mem_of_getElem? (i := 35) rfl), rfl⟩, List.forall_mem_cons.mpr ⟨List.mem_filter.mpr ⟨tb_8 _ (List.mem_of_getElem? (i := 36) rfl), rfl⟩, List.forall_mem_cons.mpr ⟨List.mem_filter.mpr ⟨tb_1 _ (List.mem_of_getElem? (i := 1) rfl), rfl⟩, List.forall_mem_cons.mpr ⟨List.mem_filter.mpr ⟨tb_8 _ (List.mem_of_getElem? (i := 37) rfl), rfl⟩, (fun _ h => nomatch h)⟩⟩⟩⟩⟩
section LWR
variable {p : Program} {l : Launch} {e : Env} {R : Room} {s : State} {m : MethodId} {args : Array Value} {below : List Frame} {meth : Method} {c : Code} {cc : ByteArray} {nL : Nat} {own : String} {D : va_G} {cA : Nat → ClassId} {tys : List (ClassId × FieldType)} {A : Nat → Prop} {n0 s0 : Nat} {Q : State → Prop} {σ : Sg} {pc : Nat} {lo : List (Nat × Value)} {ls : Array Slot} {H : Heap} {locs : List Loc} {rest : List Value} {Qn : Sg → Option Value → Prop} {Qx : Sg → String → Prop} {y : MethodName} {bytes : ByteArray} {maxL fr lw index : Nat} {ret : Option FieldType}
def cd_feed (E : String) : Int := if E = "java/lang/IllegalArgumentException" then 1 else if E = "java/lang/UnsupportedOperationException" then 2 else 0
theorem dL_feed_0 : decode cL_feed 0 = .ok (.aload 4, 2) := by decide +kernel
theorem dL_feed_2 : decode cL_feed 2 = .ok (.iconst 0, 1) := by decide +kernel
theorem dL_feed_3 : decode cL_feed 3 = .ok (.aload_n 0, 1) := by decide +kernel
theorem dL_feed_4 : decode cL_feed 4 = .ok (.lload_n 1, 1) := by decide +kernel
theorem dL_feed_5 : decode cL_feed 5 = .ok (.iload_n 3, 1) := by decide +kernel
theorem dL_feed_6 : decode cL_feed 6 = .ok (.invokevirtual 7, 3) := by decide +kernel
theorem dL_feed_9 : decode cL_feed 9 = .ok (.i2l, 1) := by decide +kernel
theorem dL_feed_10 : decode cL_feed 10 = .ok (.lastore, 1) := by decide +kernel
theorem dL_feed_11 : decode cL_feed 11 = .ok (.goto 11, 3) := by decide +kernel
theorem dL_feed_14 : decode cL_feed 14 = .ok (.astore 5, 2) := by decide +kernel
theorem dL_feed_16 : decode cL_feed 16 = .ok (.iconst 1, 1) := by decide +kernel
theorem dL_feed_17 : decode cL_feed 17 = .ok (.ireturn, 1) := by decide +kernel
theorem dL_feed_18 : decode cL_feed 18 = .ok (.astore 5, 2) := by decide +kernel
theorem dL_feed_20 : decode cL_feed 20 = .ok (.iconst 2, 1) := by decide +kernel
theorem dL_feed_21 : decode cL_feed 21 = .ok (.ireturn, 1) := by decide +kernel
theorem dL_feed_22 : decode cL_feed 22 = .ok (.iconst 0, 1) := by decide +kernel
theorem dL_feed_23 : decode cL_feed 23 = .ok (.ireturn, 1) := by decide +kernel
set_option maxRecDepth 20000 in
theorem okw_feed (hl0 : l.stackTraces = false) (hT : TyC cA tys) {Q : Sg → Int → Prop} {X : Sg → String → Prop} {th o : Nat} {v : Int64} {v1 : Int64} {v3 : Int} (g3 : rng v3) (hth : kO σ th 12) (hG : RG σ) (hY : TY σ) (h : wp_X12_feed th v1 v3 σ Q X) (hXE : ∀ σ' E, X σ' E → E = "java/lang/IllegalArgumentException" ∨ E = "java/lang/UnsupportedOperationException") : Okw l D cA tys A o v yL_feed (.codeWith yL_feed cL_feed 6 (some .int) [(0, 11, 14, 13), (0, 11, 18, 15)]) 7 114 [.ref th, .long v1, .int (i32 v3), .ref o] σ (fun σ' k v' => ((∃ r : Int, Q σ' r ∧ k = 0 ∧ v' = Int64.ofInt r) ∨ (∃ E, X σ' E ∧ k = cd_feed E ∧ v' = v)) ∧ RG σ' ∧ TY σ' ∧ Ext σ σ') := by
  refine okw_of (by decide) (Nat.le_of_ble_eq_true rfl) ?_
  intro p e R s m args below meth c hRR B hr hlocks htab ho hna H locs ls hH hl hc
  have hl : lv_has ls 6 [(0, .ref th), (1, .long v1), (3, .int (i32 v3)), (4, .ref o)] := hl
  have hRm : Rm R (gc σ) (gs σ) := by rw [hRR]; exact ⟨rfl, rfl⟩
  refine lv_aload B.1 B.2.1 dL_feed_0 (lv_at hl 3 rfl) ?_
  refine lv_iconst (v := i32 0) B.1 B.2.1 dL_feed_2 (by decide) ?_
  refine lv_aload_n B.1 B.2.1 dL_feed_3 rfl (lv_at hl 0 rfl) ?_
  refine lv_lload_n B.1 B.2.1 dL_feed_4 rfl (lv_at hl 1 rfl) ?_
  refine lv_iload_n B.1 B.2.1 dL_feed_5 rfl (lv_at hl 2 rfl) ?_
  refine c_V B hH hl hc hRm (C := RX12) (T := TX12) (N := 9) (ci := 12) (As := [.long v1, .int (i32 v3)]) (ok_X12_feed hl0 hT σ th v1 v3 g3 hth hG hY h) wcL_7 2 hd_X12_feed ⟨by rw [hRR]; exact Nat.le_refl _, by rw [hRR]; exact Nat.le_refl _⟩ hth.1 hth.2 (by decide) rfl rfl (rest := [.int (i32 0), .ref o]) rfl (Nat.le_of_ble_eq_true rfl) dL_feed_6 (fun σ1 w9 hq => ?_) (fun σ9 E9 hx9 => ?_)
  · obtain ⟨r, rfl, gr, hq, hG1, hY1, hE1⟩ := hq
    intro H locs ls hH hl hc
    have ho1 := ho.here hH.2.2 hna
    refine W.eq (g2 := F0 m 9 ls [.int (i32 r), .int (i32 0), .ref o]) rfl ?_
    refine lv_i2l B.1 B.2.1 dL_feed_9 (i32_i64 gr) ?_
    refine o_last B hT hH ho1 hna dL_feed_10 (fun H1 locs1 hP1 hS1 ho2 => ?_)
    refine lv_goto (tgt := 22) B.1 B.2.1 dL_feed_11 (by decide) ?_
    refine lv_iconst (v := i32 0) B.1 B.2.1 dL_feed_22 (by decide) ?_
    exact eo_ret B hP1 hH.2.1 hS1 ho2 hc (by unfold rng; omega) hr hlocks ⟨Or.inl ⟨r, hq, rfl, rfl⟩, hG1, hY1, hE1⟩ dL_feed_23
  · obtain ⟨hx, hG1, hY1, hE1⟩ := hx9
    intro H locs ls ce q hH hl hc hce hcv hcl
    have ho1 := ho.here hH.2.2 hna
    rcases hXE σ9 E9 hx with rfl | rfl
    · refine vx_catch (own := RL) (name := "java/lang/IllegalArgumentException") (E := "java/lang/IllegalArgumentException") B.2.2.1 [] ⟨0, 11, 14, 13⟩ [⟨0, 11, 18, 15⟩] (htab.trans rfl) (fun z9 hz9 => nomatch hz9) rfl (by decide) (B.2.2.2.1 _ wlL_13) (cs_of B (by decide)) hce hcv hcl ?_
      refine W.eq (g2 := F0 m 14 ls [va_rf (some q)]) rfl ?_
      refine lv_astoreQ (lv' := [(5, va_rf (some q)), (0, .ref th), (1, .long v1), (3, .int (i32 v3)), (4, .ref o)]) B.1 B.2.1 dL_feed_14 hl (by decide) rfl (fun ls hl => ?_)
      refine lv_iconst (v := i32 1) B.1 B.2.1 dL_feed_16 (by decide) ?_
      exact eo_ret B hH.1 hH.2.1 (So hH.2.2) ho1 hc (by unfold rng; omega) hr hlocks ⟨Or.inr ⟨"java/lang/IllegalArgumentException", hx, rfl, rfl⟩, hG1, hY1, hE1⟩ dL_feed_17
    · refine vx_catch (own := RL) (name := "java/lang/UnsupportedOperationException") (E := "java/lang/UnsupportedOperationException") B.2.2.1 [⟨0, 11, 14, 13⟩] ⟨0, 11, 18, 15⟩ [] (htab.trans rfl) ((List.forall_mem_cons.mpr ⟨Or.inr ⟨by decide, "java/lang/IllegalArgumentException", B.2.2.2.1 _ wlL_13, nc_of B (by decide)⟩, (fun _ h => nomatch h)⟩)) rfl (by decide) (B.2.2.2.1 _ wlL_15) (cs_of B (by decide)) hce hcv hcl ?_
      refine W.eq (g2 := F0 m 18 ls [va_rf (some q)]) rfl ?_
      refine lv_astoreQ (lv' := [(5, va_rf (some q)), (0, .ref th), (1, .long v1), (3, .int (i32 v3)), (4, .ref o)]) B.1 B.2.1 dL_feed_18 hl (by decide) rfl (fun ls hl => ?_)
      refine lv_iconst (v := i32 2) B.1 B.2.1 dL_feed_20 (by decide) ?_
      exact eo_ret B hH.1 hH.2.1 (So hH.2.2) ho1 hc (by unfold rng; omega) hr hlocks ⟨Or.inr ⟨"java/lang/UnsupportedOperationException", hx, rfl, rfl⟩, hG1, hY1, hE1⟩ dL_feed_21
def cd_job (E : String) : Int := if E = "java/lang/IllegalStateException" then 1 else 0
theorem dL_job_0 : decode cL_job 0 = .ok (.aload_n 1, 1) := by decide +kernel
theorem dL_job_1 : decode cL_job 1 = .ok (.iconst 0, 1) := by decide +kernel
theorem dL_job_2 : decode cL_job 2 = .ok (.aload_n 0, 1) := by decide +kernel
theorem dL_job_3 : decode cL_job 3 = .ok (.invokevirtual 17, 3) := by decide +kernel
theorem dL_job_6 : decode cL_job 6 = .ok (.i2l, 1) := by decide +kernel
theorem dL_job_7 : decode cL_job 7 = .ok (.lastore, 1) := by decide +kernel
theorem dL_job_8 : decode cL_job 8 = .ok (.goto 6, 3) := by decide +kernel
theorem dL_job_11 : decode cL_job 11 = .ok (.astore_n 2, 1) := by decide +kernel
theorem dL_job_12 : decode cL_job 12 = .ok (.iconst 1, 1) := by decide +kernel
theorem dL_job_13 : decode cL_job 13 = .ok (.ireturn, 1) := by decide +kernel
theorem dL_job_14 : decode cL_job 14 = .ok (.iconst 0, 1) := by decide +kernel
theorem dL_job_15 : decode cL_job 15 = .ok (.ireturn, 1) := by decide +kernel
set_option maxRecDepth 20000 in
theorem okw_job (hl0 : l.stackTraces = false) (hT : TyC cA tys) {Q : Sg → Int → Prop} {X : Sg → String → Prop} {th o : Nat} {v : Int64} (hth : kO σ th 12) (hG : RG σ) (hY : TY σ) (h : wp_X12_job th σ Q X) (hXE : ∀ σ' E, X σ' E → E = "java/lang/IllegalStateException") : Okw l D cA tys A o v yL_job (.codeWith yL_job cL_job 3 (some .int) [(0, 8, 11, 21)]) 165 11312 [.ref th, .ref o] σ (fun σ' k v' => ((∃ r : Int, Q σ' r ∧ k = 0 ∧ v' = Int64.ofInt r) ∨ (∃ E, X σ' E ∧ k = cd_job E ∧ v' = v)) ∧ RG σ' ∧ TY σ' ∧ Ext σ σ') := by
  refine okw_of (by decide) (Nat.le_of_ble_eq_true rfl) ?_
  intro p e R s m args below meth c hRR B hr hlocks htab ho hna H locs ls hH hl hc
  have hl : lv_has ls 3 [(0, .ref th), (1, .ref o)] := hl
  have hRm : Rm R (gc σ) (gs σ) := by rw [hRR]; exact ⟨rfl, rfl⟩
  refine lv_aload_n B.1 B.2.1 dL_job_0 rfl (lv_at hl 1 rfl) ?_
  refine lv_iconst (v := i32 0) B.1 B.2.1 dL_job_1 (by decide) ?_
  refine lv_aload_n B.1 B.2.1 dL_job_2 rfl (lv_at hl 0 rfl) ?_
  refine c_V B hH hl hc hRm (C := RX12) (T := TX12) (N := 9) (ci := 12) (As := []) (ok_X12_job hl0 hT σ th hth hG hY h) wcL_17 0 hd_X12_job ⟨by rw [hRR]; exact Nat.le_refl _, by rw [hRR]; exact Nat.le_refl _⟩ hth.1 hth.2 (by decide) rfl rfl (rest := [.int (i32 0), .ref o]) rfl (Nat.le_of_ble_eq_true rfl) dL_job_3 (fun σ1 w9 hq => ?_) (fun σ9 E9 hx9 => ?_)
  · obtain ⟨r, rfl, gr, hq, hG1, hY1, hE1⟩ := hq
    intro H locs ls hH hl hc
    have ho1 := ho.here hH.2.2 hna
    refine W.eq (g2 := F0 m 6 ls [.int (i32 r), .int (i32 0), .ref o]) rfl ?_
    refine lv_i2l B.1 B.2.1 dL_job_6 (i32_i64 gr) ?_
    refine o_last B hT hH ho1 hna dL_job_7 (fun H1 locs1 hP1 hS1 ho2 => ?_)
    refine lv_goto (tgt := 14) B.1 B.2.1 dL_job_8 (by decide) ?_
    refine lv_iconst (v := i32 0) B.1 B.2.1 dL_job_14 (by decide) ?_
    exact eo_ret B hP1 hH.2.1 hS1 ho2 hc (by unfold rng; omega) hr hlocks ⟨Or.inl ⟨r, hq, rfl, rfl⟩, hG1, hY1, hE1⟩ dL_job_15
  · obtain ⟨hx, hG1, hY1, hE1⟩ := hx9
    intro H locs ls ce q hH hl hc hce hcv hcl
    have ho1 := ho.here hH.2.2 hna
    obtain rfl := hXE σ9 E9 hx
    refine vx_catch (own := RL) (name := "java/lang/IllegalStateException") (E := "java/lang/IllegalStateException") B.2.2.1 [] ⟨0, 8, 11, 21⟩ [] (htab.trans rfl) (fun z9 hz9 => nomatch hz9) rfl (by decide) (B.2.2.2.1 _ wlL_21) (cs_of B (by decide)) hce hcv hcl ?_
    refine W.eq (g2 := F0 m 11 ls [va_rf (some q)]) rfl ?_
    refine lv_astore_nQ (lv' := [(2, va_rf (some q)), (0, .ref th), (1, .ref o)]) B.1 B.2.1 dL_job_11 rfl hl (by decide) rfl (fun ls hl => ?_)
    refine lv_iconst (v := i32 1) B.1 B.2.1 dL_job_12 (by decide) ?_
    exact eo_ret B hH.1 hH.2.1 (So hH.2.2) ho1 hc (by unfold rng; omega) hr hlocks ⟨Or.inr ⟨"java/lang/IllegalStateException", hx, rfl, rfl⟩, hG1, hY1, hE1⟩ dL_job_13
def cd_operator (E : String) : Int := if E = "java/lang/IndexOutOfBoundsException" then 1 else if E = "java/lang/IllegalArgumentException" then 2 else 0
theorem dL_operator_0 : decode cL_operator 0 = .ok (.aload_n 3, 1) := by decide +kernel
theorem dL_operator_1 : decode cL_operator 1 = .ok (.iconst 0, 1) := by decide +kernel
theorem dL_operator_2 : decode cL_operator 2 = .ok (.aload_n 0, 1) := by decide +kernel
theorem dL_operator_3 : decode cL_operator 3 = .ok (.iload_n 1, 1) := by decide +kernel
theorem dL_operator_4 : decode cL_operator 4 = .ok (.iload_n 2, 1) := by decide +kernel
theorem dL_operator_5 : decode cL_operator 5 = .ok (.invokevirtual 23, 3) := by decide +kernel
theorem dL_operator_8 : decode cL_operator 8 = .ok (.lastore, 1) := by decide +kernel
theorem dL_operator_9 : decode cL_operator 9 = .ok (.goto 11, 3) := by decide +kernel
theorem dL_operator_12 : decode cL_operator 12 = .ok (.astore 4, 2) := by decide +kernel
theorem dL_operator_14 : decode cL_operator 14 = .ok (.iconst 1, 1) := by decide +kernel
theorem dL_operator_15 : decode cL_operator 15 = .ok (.ireturn, 1) := by decide +kernel
theorem dL_operator_16 : decode cL_operator 16 = .ok (.astore 4, 2) := by decide +kernel
theorem dL_operator_18 : decode cL_operator 18 = .ok (.iconst 2, 1) := by decide +kernel
theorem dL_operator_19 : decode cL_operator 19 = .ok (.ireturn, 1) := by decide +kernel
theorem dL_operator_20 : decode cL_operator 20 = .ok (.iconst 0, 1) := by decide +kernel
theorem dL_operator_21 : decode cL_operator 21 = .ok (.ireturn, 1) := by decide +kernel
set_option maxRecDepth 20000 in
theorem okw_operator (hl0 : l.stackTraces = false) (hT : TyC cA tys) {Q : Sg → Int64 → Prop} {X : Sg → String → Prop} {th o : Nat} {v : Int64} {v1 : Int} {v2 : Int} (g1 : rng v1) (g2 : rng v2) (hth : kO σ th 12) (hG : RG σ) (hY : TY σ) (h : wp_X12_operator th v1 v2 σ Q X) (hXE : ∀ σ' E, X σ' E → E = "java/lang/IndexOutOfBoundsException" ∨ E = "java/lang/IllegalArgumentException") : Okw l D cA tys A o v yL_operator (.codeWith yL_operator cL_operator 5 (some .int) [(0, 9, 12, 27), (0, 9, 16, 13)]) 7 113 [.ref th, .int (i32 v1), .int (i32 v2), .ref o] σ (fun σ' k v' => ((∃ r : Int64, Q σ' r ∧ k = 0 ∧ v' = r) ∨ (∃ E, X σ' E ∧ k = cd_operator E ∧ v' = v)) ∧ RG σ' ∧ TY σ' ∧ Ext σ σ') := by
  refine okw_of (by decide) (Nat.le_of_ble_eq_true rfl) ?_
  intro p e R s m args below meth c hRR B hr hlocks htab ho hna H locs ls hH hl hc
  have hl : lv_has ls 5 [(0, .ref th), (1, .int (i32 v1)), (2, .int (i32 v2)), (3, .ref o)] := hl
  have hRm : Rm R (gc σ) (gs σ) := by rw [hRR]; exact ⟨rfl, rfl⟩
  refine lv_aload_n B.1 B.2.1 dL_operator_0 rfl (lv_at hl 3 rfl) ?_
  refine lv_iconst (v := i32 0) B.1 B.2.1 dL_operator_1 (by decide) ?_
  refine lv_aload_n B.1 B.2.1 dL_operator_2 rfl (lv_at hl 0 rfl) ?_
  refine lv_iload_n B.1 B.2.1 dL_operator_3 rfl (lv_at hl 1 rfl) ?_
  refine lv_iload_n B.1 B.2.1 dL_operator_4 rfl (lv_at hl 2 rfl) ?_
  refine c_V B hH hl hc hRm (C := RX12) (T := TX12) (N := 9) (ci := 12) (As := [.int (i32 v1), .int (i32 v2)]) (ok_X12_operator hl0 hT σ th v1 v2 g1 g2 hth hG hY h) wcL_23 2 hd_X12_operator ⟨by rw [hRR]; exact Nat.le_refl _, by rw [hRR]; exact Nat.le_refl _⟩ hth.1 hth.2 (by decide) rfl rfl (rest := [.int (i32 0), .ref o]) rfl (Nat.le_of_ble_eq_true rfl) dL_operator_5 (fun σ1 w9 hq => ?_) (fun σ9 E9 hx9 => ?_)
  · obtain ⟨r, rfl, hq, hG1, hY1, hE1⟩ := hq
    intro H locs ls hH hl hc
    have ho1 := ho.here hH.2.2 hna
    refine W.eq (g2 := F0 m 8 ls [.long r, .int (i32 0), .ref o]) rfl ?_
    refine o_last B hT hH ho1 hna dL_operator_8 (fun H1 locs1 hP1 hS1 ho2 => ?_)
    refine lv_goto (tgt := 20) B.1 B.2.1 dL_operator_9 (by decide) ?_
    refine lv_iconst (v := i32 0) B.1 B.2.1 dL_operator_20 (by decide) ?_
    exact eo_ret B hP1 hH.2.1 hS1 ho2 hc (by unfold rng; omega) hr hlocks ⟨Or.inl ⟨r, hq, rfl, rfl⟩, hG1, hY1, hE1⟩ dL_operator_21
  · obtain ⟨hx, hG1, hY1, hE1⟩ := hx9
    intro H locs ls ce q hH hl hc hce hcv hcl
    have ho1 := ho.here hH.2.2 hna
    rcases hXE σ9 E9 hx with rfl | rfl
    · refine vx_catch (own := RL) (name := "java/lang/IndexOutOfBoundsException") (E := "java/lang/IndexOutOfBoundsException") B.2.2.1 [] ⟨0, 9, 12, 27⟩ [⟨0, 9, 16, 13⟩] (htab.trans rfl) (fun z9 hz9 => nomatch hz9) rfl (by decide) (B.2.2.2.1 _ wlL_27) (cs_of B (by decide)) hce hcv hcl ?_
      refine W.eq (g2 := F0 m 12 ls [va_rf (some q)]) rfl ?_
      refine lv_astoreQ (lv' := [(4, va_rf (some q)), (0, .ref th), (1, .int (i32 v1)), (2, .int (i32 v2)), (3, .ref o)]) B.1 B.2.1 dL_operator_12 hl (by decide) rfl (fun ls hl => ?_)
      refine lv_iconst (v := i32 1) B.1 B.2.1 dL_operator_14 (by decide) ?_
      exact eo_ret B hH.1 hH.2.1 (So hH.2.2) ho1 hc (by unfold rng; omega) hr hlocks ⟨Or.inr ⟨"java/lang/IndexOutOfBoundsException", hx, rfl, rfl⟩, hG1, hY1, hE1⟩ dL_operator_15
    · refine vx_catch (own := RL) (name := "java/lang/IllegalArgumentException") (E := "java/lang/IllegalArgumentException") B.2.2.1 [⟨0, 9, 12, 27⟩] ⟨0, 9, 16, 13⟩ [] (htab.trans rfl) ((List.forall_mem_cons.mpr ⟨Or.inr ⟨by decide, "java/lang/IndexOutOfBoundsException", B.2.2.2.1 _ wlL_27, nc_of B (by decide)⟩, (fun _ h => nomatch h)⟩)) rfl (by decide) (B.2.2.2.1 _ wlL_13) (cs_of B (by decide)) hce hcv hcl ?_
      refine W.eq (g2 := F0 m 16 ls [va_rf (some q)]) rfl ?_
      refine lv_astoreQ (lv' := [(4, va_rf (some q)), (0, .ref th), (1, .int (i32 v1)), (2, .int (i32 v2)), (3, .ref o)]) B.1 B.2.1 dL_operator_16 hl (by decide) rfl (fun ls hl => ?_)
      refine lv_iconst (v := i32 2) B.1 B.2.1 dL_operator_18 (by decide) ?_
      exact eo_ret B hH.1 hH.2.1 (So hH.2.2) ho1 hc (by unfold rng; omega) hr hlocks ⟨Or.inr ⟨"java/lang/IllegalArgumentException", hx, rfl, rfl⟩, hG1, hY1, hE1⟩ dL_operator_19
def cd_give (E : String) : Int := if E = "java/lang/IndexOutOfBoundsException" then 1 else if E = "java/lang/IllegalStateException" then 2 else if E = "java/lang/IllegalArgumentException" then 3 else if E = "java/lang/UnsupportedOperationException" then 4 else 0
theorem dL_give_0 : decode cL_give 0 = .ok (.aload 11, 2) := by decide +kernel
theorem dL_give_2 : decode cL_give 2 = .ok (.iconst 0, 1) := by decide +kernel
theorem dL_give_3 : decode cL_give 3 = .ok (.aload_n 0, 1) := by decide +kernel
theorem dL_give_4 : decode cL_give 4 = .ok (.iload_n 1, 1) := by decide +kernel
theorem dL_give_5 : decode cL_give 5 = .ok (.iload_n 2, 1) := by decide +kernel
theorem dL_give_6 : decode cL_give 6 = .ok (.lload_n 3, 1) := by decide +kernel
theorem dL_give_7 : decode cL_give 7 = .ok (.lload 5, 2) := by decide +kernel
theorem dL_give_9 : decode cL_give 9 = .ok (.lload 7, 2) := by decide +kernel
theorem dL_give_11 : decode cL_give 11 = .ok (.lload 9, 2) := by decide +kernel
theorem dL_give_13 : decode cL_give 13 = .ok (.invokevirtual 29, 3) := by decide +kernel
theorem dL_give_16 : decode cL_give 16 = .ok (.i2l, 1) := by decide +kernel
theorem dL_give_17 : decode cL_give 17 = .ok (.lastore, 1) := by decide +kernel
theorem dL_give_18 : decode cL_give 18 = .ok (.goto 19, 3) := by decide +kernel
theorem dL_give_21 : decode cL_give 21 = .ok (.astore 12, 2) := by decide +kernel
theorem dL_give_23 : decode cL_give 23 = .ok (.iconst 1, 1) := by decide +kernel
theorem dL_give_24 : decode cL_give 24 = .ok (.ireturn, 1) := by decide +kernel
theorem dL_give_25 : decode cL_give 25 = .ok (.astore 12, 2) := by decide +kernel
theorem dL_give_27 : decode cL_give 27 = .ok (.iconst 2, 1) := by decide +kernel
theorem dL_give_28 : decode cL_give 28 = .ok (.ireturn, 1) := by decide +kernel
theorem dL_give_29 : decode cL_give 29 = .ok (.astore 12, 2) := by decide +kernel
theorem dL_give_31 : decode cL_give 31 = .ok (.iconst 3, 1) := by decide +kernel
theorem dL_give_32 : decode cL_give 32 = .ok (.ireturn, 1) := by decide +kernel
theorem dL_give_33 : decode cL_give 33 = .ok (.astore 12, 2) := by decide +kernel
theorem dL_give_35 : decode cL_give 35 = .ok (.iconst 4, 1) := by decide +kernel
theorem dL_give_36 : decode cL_give 36 = .ok (.ireturn, 1) := by decide +kernel
theorem dL_give_37 : decode cL_give 37 = .ok (.iconst 0, 1) := by decide +kernel
theorem dL_give_38 : decode cL_give 38 = .ok (.ireturn, 1) := by decide +kernel
set_option maxRecDepth 20000 in
theorem okw_give (hl0 : l.stackTraces = false) (hT : TyC cA tys) {Q : Sg → Int → Prop} {X : Sg → String → Prop} {th o : Nat} {v : Int64} {v1 : Int} {v2 : Int} {v3 : Int64} {v5 : Int64} {v7 : Int64} {v9 : Int64} (g1 : rng v1) (g2 : rng v2) (hth : kO σ th 12) (hG : RG σ) (hY : TY σ) (h : wp_X12_give th v1 v2 v3 v5 v7 v9 σ Q X) (hXE : ∀ σ' E, X σ' E → E = "java/lang/IndexOutOfBoundsException" ∨ E = "java/lang/IllegalStateException" ∨ E = "java/lang/IllegalArgumentException" ∨ E = "java/lang/UnsupportedOperationException") : Okw l D cA tys A o v yL_give (.codeWith yL_give cL_give 13 (some .int) [(0, 18, 21, 27), (0, 18, 25, 21), (0, 18, 29, 13), (0, 18, 33, 15)]) 7 123 [.ref th, .int (i32 v1), .int (i32 v2), .long v3, .long v5, .long v7, .long v9, .ref o] σ (fun σ' k v' => ((∃ r : Int, Q σ' r ∧ k = 0 ∧ v' = Int64.ofInt r) ∨ (∃ E, X σ' E ∧ k = cd_give E ∧ v' = v)) ∧ RG σ' ∧ TY σ' ∧ Ext σ σ') := by
  refine okw_of (by decide) (Nat.le_of_ble_eq_true rfl) ?_
  intro p e R s m args below meth c hRR B hr hlocks htab ho hna H locs ls hH hl hc
  have hl : lv_has ls 13 [(0, .ref th), (1, .int (i32 v1)), (2, .int (i32 v2)), (3, .long v3), (5, .long v5), (7, .long v7), (9, .long v9), (11, .ref o)] := hl
  have hRm : Rm R (gc σ) (gs σ) := by rw [hRR]; exact ⟨rfl, rfl⟩
  refine lv_aload B.1 B.2.1 dL_give_0 (lv_at hl 7 rfl) ?_
  refine lv_iconst (v := i32 0) B.1 B.2.1 dL_give_2 (by decide) ?_
  refine lv_aload_n B.1 B.2.1 dL_give_3 rfl (lv_at hl 0 rfl) ?_
  refine lv_iload_n B.1 B.2.1 dL_give_4 rfl (lv_at hl 1 rfl) ?_
  refine lv_iload_n B.1 B.2.1 dL_give_5 rfl (lv_at hl 2 rfl) ?_
  refine lv_lload_n B.1 B.2.1 dL_give_6 rfl (lv_at hl 3 rfl) ?_
  refine lv_lload B.1 B.2.1 dL_give_7 (lv_at hl 4 rfl) ?_
  refine lv_lload B.1 B.2.1 dL_give_9 (lv_at hl 5 rfl) ?_
  refine lv_lload B.1 B.2.1 dL_give_11 (lv_at hl 6 rfl) ?_
  refine c_V B hH hl hc hRm (C := RX12) (T := TX12) (N := 9) (ci := 12) (As := [.int (i32 v1), .int (i32 v2), .long v3, .long v5, .long v7, .long v9]) (ok_X12_give hl0 hT σ th v1 v2 v3 v5 v7 v9 g1 g2 hth hG hY h) wcL_29 6 hd_X12_give ⟨by rw [hRR]; exact Nat.le_refl _, by rw [hRR]; exact Nat.le_refl _⟩ hth.1 hth.2 (by decide) rfl rfl (rest := [.int (i32 0), .ref o]) rfl (Nat.le_of_ble_eq_true rfl) dL_give_13 (fun σ1 w9 hq => ?_) (fun σ9 E9 hx9 => ?_)
  · obtain ⟨r, rfl, gr, hq, hG1, hY1, hE1⟩ := hq
    intro H locs ls hH hl hc
    have ho1 := ho.here hH.2.2 hna
    refine W.eq (g2 := F0 m 16 ls [.int (i32 r), .int (i32 0), .ref o]) rfl ?_
    refine lv_i2l B.1 B.2.1 dL_give_16 (i32_i64 gr) ?_
    refine o_last B hT hH ho1 hna dL_give_17 (fun H1 locs1 hP1 hS1 ho2 => ?_)
    refine lv_goto (tgt := 37) B.1 B.2.1 dL_give_18 (by decide) ?_
    refine lv_iconst (v := i32 0) B.1 B.2.1 dL_give_37 (by decide) ?_
    exact eo_ret B hP1 hH.2.1 hS1 ho2 hc (by unfold rng; omega) hr hlocks ⟨Or.inl ⟨r, hq, rfl, rfl⟩, hG1, hY1, hE1⟩ dL_give_38
  · obtain ⟨hx, hG1, hY1, hE1⟩ := hx9
    intro H locs ls ce q hH hl hc hce hcv hcl
    have ho1 := ho.here hH.2.2 hna
    rcases hXE σ9 E9 hx with rfl | rfl | rfl | rfl
    · refine vx_catch (own := RL) (name := "java/lang/IndexOutOfBoundsException") (E := "java/lang/IndexOutOfBoundsException") B.2.2.1 [] ⟨0, 18, 21, 27⟩ [⟨0, 18, 25, 21⟩, ⟨0, 18, 29, 13⟩, ⟨0, 18, 33, 15⟩] (htab.trans rfl) (fun z9 hz9 => nomatch hz9) rfl (by decide) (B.2.2.2.1 _ wlL_27) (cs_of B (by decide)) hce hcv hcl ?_
      refine W.eq (g2 := F0 m 21 ls [va_rf (some q)]) rfl ?_
      refine lv_astoreQ (lv' := [(12, va_rf (some q)), (0, .ref th), (1, .int (i32 v1)), (2, .int (i32 v2)), (3, .long v3), (5, .long v5), (7, .long v7), (9, .long v9), (11, .ref o)]) B.1 B.2.1 dL_give_21 hl (by decide) rfl (fun ls hl => ?_)
      refine lv_iconst (v := i32 1) B.1 B.2.1 dL_give_23 (by decide) ?_
      exact eo_ret B hH.1 hH.2.1 (So hH.2.2) ho1 hc (by unfold rng; omega) hr hlocks ⟨Or.inr ⟨"java/lang/IndexOutOfBoundsException", hx, rfl, rfl⟩, hG1, hY1, hE1⟩ dL_give_24
    · refine vx_catch (own := RL) (name := "java/lang/IllegalStateException") (E := "java/lang/IllegalStateException") B.2.2.1 [⟨0, 18, 21, 27⟩] ⟨0, 18, 25, 21⟩ [⟨0, 18, 29, 13⟩, ⟨0, 18, 33, 15⟩] (htab.trans rfl) ((List.forall_mem_cons.mpr ⟨Or.inr ⟨by decide, "java/lang/IndexOutOfBoundsException", B.2.2.2.1 _ wlL_27, nc_of B (by decide)⟩, (fun _ h => nomatch h)⟩)) rfl (by decide) (B.2.2.2.1 _ wlL_21) (cs_of B (by decide)) hce hcv hcl ?_
      refine W.eq (g2 := F0 m 25 ls [va_rf (some q)]) rfl ?_
      refine lv_astoreQ (lv' := [(12, va_rf (some q)), (0, .ref th), (1, .int (i32 v1)), (2, .int (i32 v2)), (3, .long v3), (5, .long v5), (7, .long v7), (9, .long v9), (11, .ref o)]) B.1 B.2.1 dL_give_25 hl (by decide) rfl (fun ls hl => ?_)
      refine lv_iconst (v := i32 2) B.1 B.2.1 dL_give_27 (by decide) ?_
      exact eo_ret B hH.1 hH.2.1 (So hH.2.2) ho1 hc (by unfold rng; omega) hr hlocks ⟨Or.inr ⟨"java/lang/IllegalStateException", hx, rfl, rfl⟩, hG1, hY1, hE1⟩ dL_give_28
    · refine vx_catch (own := RL) (name := "java/lang/IllegalArgumentException") (E := "java/lang/IllegalArgumentException") B.2.2.1 [⟨0, 18, 21, 27⟩, ⟨0, 18, 25, 21⟩] ⟨0, 18, 29, 13⟩ [⟨0, 18, 33, 15⟩] (htab.trans rfl) ((List.forall_mem_cons.mpr ⟨Or.inr ⟨by decide, "java/lang/IndexOutOfBoundsException", B.2.2.2.1 _ wlL_27, nc_of B (by decide)⟩, List.forall_mem_cons.mpr ⟨Or.inr ⟨by decide, "java/lang/IllegalStateException", B.2.2.2.1 _ wlL_21, nc_of B (by decide)⟩, (fun _ h => nomatch h)⟩⟩)) rfl (by decide) (B.2.2.2.1 _ wlL_13) (cs_of B (by decide)) hce hcv hcl ?_
      refine W.eq (g2 := F0 m 29 ls [va_rf (some q)]) rfl ?_
      refine lv_astoreQ (lv' := [(12, va_rf (some q)), (0, .ref th), (1, .int (i32 v1)), (2, .int (i32 v2)), (3, .long v3), (5, .long v5), (7, .long v7), (9, .long v9), (11, .ref o)]) B.1 B.2.1 dL_give_29 hl (by decide) rfl (fun ls hl => ?_)
      refine lv_iconst (v := i32 3) B.1 B.2.1 dL_give_31 (by decide) ?_
      exact eo_ret B hH.1 hH.2.1 (So hH.2.2) ho1 hc (by unfold rng; omega) hr hlocks ⟨Or.inr ⟨"java/lang/IllegalArgumentException", hx, rfl, rfl⟩, hG1, hY1, hE1⟩ dL_give_32
    · refine vx_catch (own := RL) (name := "java/lang/UnsupportedOperationException") (E := "java/lang/UnsupportedOperationException") B.2.2.1 [⟨0, 18, 21, 27⟩, ⟨0, 18, 25, 21⟩, ⟨0, 18, 29, 13⟩] ⟨0, 18, 33, 15⟩ [] (htab.trans rfl) ((List.forall_mem_cons.mpr ⟨Or.inr ⟨by decide, "java/lang/IndexOutOfBoundsException", B.2.2.2.1 _ wlL_27, nc_of B (by decide)⟩, List.forall_mem_cons.mpr ⟨Or.inr ⟨by decide, "java/lang/IllegalStateException", B.2.2.2.1 _ wlL_21, nc_of B (by decide)⟩, List.forall_mem_cons.mpr ⟨Or.inr ⟨by decide, "java/lang/IllegalArgumentException", B.2.2.2.1 _ wlL_13, nc_of B (by decide)⟩, (fun _ h => nomatch h)⟩⟩⟩)) rfl (by decide) (B.2.2.2.1 _ wlL_15) (cs_of B (by decide)) hce hcv hcl ?_
      refine W.eq (g2 := F0 m 33 ls [va_rf (some q)]) rfl ?_
      refine lv_astoreQ (lv' := [(12, va_rf (some q)), (0, .ref th), (1, .int (i32 v1)), (2, .int (i32 v2)), (3, .long v3), (5, .long v5), (7, .long v7), (9, .long v9), (11, .ref o)]) B.1 B.2.1 dL_give_33 hl (by decide) rfl (fun ls hl => ?_)
      refine lv_iconst (v := i32 4) B.1 B.2.1 dL_give_35 (by decide) ?_
      exact eo_ret B hH.1 hH.2.1 (So hH.2.2) ho1 hc (by unfold rng; omega) hr hlocks ⟨Or.inr ⟨"java/lang/UnsupportedOperationException", hx, rfl, rfl⟩, hG1, hY1, hE1⟩ dL_give_36
def cd_close (E : String) : Int := if E = "java/lang/IndexOutOfBoundsException" then 1 else if E = "java/lang/IllegalStateException" then 2 else 0
theorem dL_close_0 : decode cL_close 0 = .ok (.aload_n 2, 1) := by decide +kernel
theorem dL_close_1 : decode cL_close 1 = .ok (.iconst 0, 1) := by decide +kernel
theorem dL_close_2 : decode cL_close 2 = .ok (.aload_n 0, 1) := by decide +kernel
theorem dL_close_3 : decode cL_close 3 = .ok (.iload_n 1, 1) := by decide +kernel
theorem dL_close_4 : decode cL_close 4 = .ok (.invokevirtual 33, 3) := by decide +kernel
theorem dL_close_7 : decode cL_close 7 = .ok (.ifCond .eq 7, 3) := by decide +kernel
theorem dL_close_10 : decode cL_close 10 = .ok (.lconst 1, 1) := by decide +kernel
theorem dL_close_11 : decode cL_close 11 = .ok (.goto 4, 3) := by decide +kernel
theorem dL_close_14 : decode cL_close 14 = .ok (.lconst 0, 1) := by decide +kernel
theorem dL_close_15 : decode cL_close 15 = .ok (.lastore, 1) := by decide +kernel
theorem dL_close_16 : decode cL_close 16 = .ok (.goto 9, 3) := by decide +kernel
theorem dL_close_19 : decode cL_close 19 = .ok (.astore_n 3, 1) := by decide +kernel
theorem dL_close_20 : decode cL_close 20 = .ok (.iconst 1, 1) := by decide +kernel
theorem dL_close_21 : decode cL_close 21 = .ok (.ireturn, 1) := by decide +kernel
theorem dL_close_22 : decode cL_close 22 = .ok (.astore_n 3, 1) := by decide +kernel
theorem dL_close_23 : decode cL_close 23 = .ok (.iconst 2, 1) := by decide +kernel
theorem dL_close_24 : decode cL_close 24 = .ok (.ireturn, 1) := by decide +kernel
theorem dL_close_25 : decode cL_close 25 = .ok (.iconst 0, 1) := by decide +kernel
theorem dL_close_26 : decode cL_close 26 = .ok (.ireturn, 1) := by decide +kernel
set_option maxRecDepth 20000 in
theorem okw_close (hl0 : l.stackTraces = false) (hT : TyC cA tys) {Q : Sg → Int → Prop} {X : Sg → String → Prop} {th o : Nat} {v : Int64} {v1 : Int} (g1 : rng v1) (hth : kO σ th 12) (hG : RG σ) (hY : TY σ) (h : wp_X12_close th v1 σ Q X) (hXE : ∀ σ' E, X σ' E → E = "java/lang/IndexOutOfBoundsException" ∨ E = "java/lang/IllegalStateException") : Okw l D cA tys A o v yL_close (.codeWith yL_close cL_close 4 (some .int) [(0, 16, 19, 27), (0, 16, 22, 21)]) 7 112 [.ref th, .int (i32 v1), .ref o] σ (fun σ' k v' => ((∃ r : Int, Q σ' r ∧ k = 0 ∧ v' = Int64.ofInt r) ∨ (∃ E, X σ' E ∧ k = cd_close E ∧ v' = v)) ∧ RG σ' ∧ TY σ' ∧ Ext σ σ') := by
  refine okw_of (by decide) (Nat.le_of_ble_eq_true rfl) ?_
  intro p e R s m args below meth c hRR B hr hlocks htab ho hna H locs ls hH hl hc
  have hl : lv_has ls 4 [(0, .ref th), (1, .int (i32 v1)), (2, .ref o)] := hl
  have hRm : Rm R (gc σ) (gs σ) := by rw [hRR]; exact ⟨rfl, rfl⟩
  refine lv_aload_n B.1 B.2.1 dL_close_0 rfl (lv_at hl 2 rfl) ?_
  refine lv_iconst (v := i32 0) B.1 B.2.1 dL_close_1 (by decide) ?_
  refine lv_aload_n B.1 B.2.1 dL_close_2 rfl (lv_at hl 0 rfl) ?_
  refine lv_iload_n B.1 B.2.1 dL_close_3 rfl (lv_at hl 1 rfl) ?_
  refine c_V B hH hl hc hRm (C := RX12) (T := TX12) (N := 9) (ci := 12) (As := [.int (i32 v1)]) (ok_X12_close hl0 hT σ th v1 g1 hth hG hY h) wcL_33 1 hd_X12_close ⟨by rw [hRR]; exact Nat.le_refl _, by rw [hRR]; exact Nat.le_refl _⟩ hth.1 hth.2 (by decide) rfl rfl (rest := [.int (i32 0), .ref o]) rfl (Nat.le_of_ble_eq_true rfl) dL_close_4 (fun σ1 w9 hq => ?_) (fun σ9 E9 hx9 => ?_)
  · obtain ⟨r, rfl, ⟨gr, gz⟩, hq, hG1, hY1, hE1⟩ := hq
    intro H locs ls hH hl hc
    have ho1 := ho.here hH.2.2 hna
    refine W.eq (g2 := F0 m 7 ls [.int (i32 r), .int (i32 0), .ref o]) rfl ?_
    refine lv_if_eq (tgt := 14) B.1 B.2.1 dL_close_7 (by decide) (fun h9 => ?_) (fun h9 => ?_)
    · have e9 : r = 0 := (z_eq gr).mp h9
      refine lv_lconst (v := 0) B.1 B.2.1 dL_close_14 (by decide) ?_
      refine o_last B hT hH ho1 hna dL_close_15 (fun H1 locs1 hP1 hS1 ho2 => ?_)
      refine lv_goto (tgt := 25) B.1 B.2.1 dL_close_16 (by decide) ?_
      refine lv_iconst (v := i32 0) B.1 B.2.1 dL_close_25 (by decide) ?_
      exact eo_ret B hP1 hH.2.1 hS1 ho2 hc (by unfold rng; omega) hr hlocks ⟨Or.inl ⟨r, hq, rfl, (by rw [e9]; rfl)⟩, hG1, hY1, hE1⟩ dL_close_26
    · have e9 : r = 1 := by rcases gz with e9 | e9; exact absurd ((z_eq gr).mpr e9) h9; exact e9
      refine lv_lconst (v := 1) B.1 B.2.1 dL_close_10 (by decide) ?_
      refine lv_goto (tgt := 15) B.1 B.2.1 dL_close_11 (by decide) ?_
      refine o_last B hT hH ho1 hna dL_close_15 (fun H1 locs1 hP1 hS1 ho2 => ?_)
      refine lv_goto (tgt := 25) B.1 B.2.1 dL_close_16 (by decide) ?_
      refine lv_iconst (v := i32 0) B.1 B.2.1 dL_close_25 (by decide) ?_
      exact eo_ret B hP1 hH.2.1 hS1 ho2 hc (by unfold rng; omega) hr hlocks ⟨Or.inl ⟨r, hq, rfl, (by rw [e9]; rfl)⟩, hG1, hY1, hE1⟩ dL_close_26
  · obtain ⟨hx, hG1, hY1, hE1⟩ := hx9
    intro H locs ls ce q hH hl hc hce hcv hcl
    have ho1 := ho.here hH.2.2 hna
    rcases hXE σ9 E9 hx with rfl | rfl
    · refine vx_catch (own := RL) (name := "java/lang/IndexOutOfBoundsException") (E := "java/lang/IndexOutOfBoundsException") B.2.2.1 [] ⟨0, 16, 19, 27⟩ [⟨0, 16, 22, 21⟩] (htab.trans rfl) (fun z9 hz9 => nomatch hz9) rfl (by decide) (B.2.2.2.1 _ wlL_27) (cs_of B (by decide)) hce hcv hcl ?_
      refine W.eq (g2 := F0 m 19 ls [va_rf (some q)]) rfl ?_
      refine lv_astore_nQ (lv' := [(3, va_rf (some q)), (0, .ref th), (1, .int (i32 v1)), (2, .ref o)]) B.1 B.2.1 dL_close_19 rfl hl (by decide) rfl (fun ls hl => ?_)
      refine lv_iconst (v := i32 1) B.1 B.2.1 dL_close_20 (by decide) ?_
      exact eo_ret B hH.1 hH.2.1 (So hH.2.2) ho1 hc (by unfold rng; omega) hr hlocks ⟨Or.inr ⟨"java/lang/IndexOutOfBoundsException", hx, rfl, rfl⟩, hG1, hY1, hE1⟩ dL_close_21
    · refine vx_catch (own := RL) (name := "java/lang/IllegalStateException") (E := "java/lang/IllegalStateException") B.2.2.1 [⟨0, 16, 19, 27⟩] ⟨0, 16, 22, 21⟩ [] (htab.trans rfl) ((List.forall_mem_cons.mpr ⟨Or.inr ⟨by decide, "java/lang/IndexOutOfBoundsException", B.2.2.2.1 _ wlL_27, nc_of B (by decide)⟩, (fun _ h => nomatch h)⟩)) rfl (by decide) (B.2.2.2.1 _ wlL_21) (cs_of B (by decide)) hce hcv hcl ?_
      refine W.eq (g2 := F0 m 22 ls [va_rf (some q)]) rfl ?_
      refine lv_astore_nQ (lv' := [(3, va_rf (some q)), (0, .ref th), (1, .int (i32 v1)), (2, .ref o)]) B.1 B.2.1 dL_close_22 rfl hl (by decide) rfl (fun ls hl => ?_)
      refine lv_iconst (v := i32 2) B.1 B.2.1 dL_close_23 (by decide) ?_
      exact eo_ret B hH.1 hH.2.1 (So hH.2.2) ho1 hc (by unfold rng; omega) hr hlocks ⟨Or.inr ⟨"java/lang/IllegalStateException", hx, rfl, rfl⟩, hG1, hY1, hE1⟩ dL_close_24
def cd_start (E : String) : Int := if E = "java/lang/IllegalStateException" then 1 else if E = "java/lang/IllegalArgumentException" then 2 else 0
theorem dL_start_0 : decode cL_start 0 = .ok (.aload 5, 2) := by decide +kernel
theorem dL_start_2 : decode cL_start 2 = .ok (.iconst 0, 1) := by decide +kernel
theorem dL_start_3 : decode cL_start 3 = .ok (.aload_n 0, 1) := by decide +kernel
theorem dL_start_4 : decode cL_start 4 = .ok (.iload_n 1, 1) := by decide +kernel
theorem dL_start_5 : decode cL_start 5 = .ok (.iload_n 2, 1) := by decide +kernel
theorem dL_start_6 : decode cL_start 6 = .ok (.lload_n 3, 1) := by decide +kernel
theorem dL_start_7 : decode cL_start 7 = .ok (.invokevirtual 37, 3) := by decide +kernel
theorem dL_start_10 : decode cL_start 10 = .ok (.i2l, 1) := by decide +kernel
theorem dL_start_11 : decode cL_start 11 = .ok (.lastore, 1) := by decide +kernel
theorem dL_start_12 : decode cL_start 12 = .ok (.goto 11, 3) := by decide +kernel
theorem dL_start_15 : decode cL_start 15 = .ok (.astore 6, 2) := by decide +kernel
theorem dL_start_17 : decode cL_start 17 = .ok (.iconst 1, 1) := by decide +kernel
theorem dL_start_18 : decode cL_start 18 = .ok (.ireturn, 1) := by decide +kernel
theorem dL_start_19 : decode cL_start 19 = .ok (.astore 6, 2) := by decide +kernel
theorem dL_start_21 : decode cL_start 21 = .ok (.iconst 2, 1) := by decide +kernel
theorem dL_start_22 : decode cL_start 22 = .ok (.ireturn, 1) := by decide +kernel
theorem dL_start_23 : decode cL_start 23 = .ok (.iconst 0, 1) := by decide +kernel
theorem dL_start_24 : decode cL_start 24 = .ok (.ireturn, 1) := by decide +kernel
set_option maxRecDepth 20000 in
theorem okw_start (hl0 : l.stackTraces = false) (hT : TyC cA tys) {Q : Sg → Int → Prop} {X : Sg → String → Prop} {th o : Nat} {v : Int64} {v1 : Int} {v2 : Int} {v3 : Int64} (g1 : rng v1) (g2 : rng v2) (hth : kO σ th 12) (hG : RG σ) (hY : TY σ) (h : wp_X12_start th v1 v2 v3 σ Q X) (hXE : ∀ σ' E, X σ' E → E = "java/lang/IllegalStateException" ∨ E = "java/lang/IllegalArgumentException") : Okw l D cA tys A o v yL_start (.codeWith yL_start cL_start 7 (some .int) [(0, 12, 15, 21), (0, 12, 19, 13)]) 8 175 [.ref th, .int (i32 v1), .int (i32 v2), .long v3, .ref o] σ (fun σ' k v' => ((∃ r : Int, Q σ' r ∧ k = 0 ∧ v' = Int64.ofInt r) ∨ (∃ E, X σ' E ∧ k = cd_start E ∧ v' = v)) ∧ RG σ' ∧ TY σ' ∧ Ext σ σ') := by
  refine okw_of (by decide) (Nat.le_of_ble_eq_true rfl) ?_
  intro p e R s m args below meth c hRR B hr hlocks htab ho hna H locs ls hH hl hc
  have hl : lv_has ls 7 [(0, .ref th), (1, .int (i32 v1)), (2, .int (i32 v2)), (3, .long v3), (5, .ref o)] := hl
  have hRm : Rm R (gc σ) (gs σ) := by rw [hRR]; exact ⟨rfl, rfl⟩
  refine lv_aload B.1 B.2.1 dL_start_0 (lv_at hl 4 rfl) ?_
  refine lv_iconst (v := i32 0) B.1 B.2.1 dL_start_2 (by decide) ?_
  refine lv_aload_n B.1 B.2.1 dL_start_3 rfl (lv_at hl 0 rfl) ?_
  refine lv_iload_n B.1 B.2.1 dL_start_4 rfl (lv_at hl 1 rfl) ?_
  refine lv_iload_n B.1 B.2.1 dL_start_5 rfl (lv_at hl 2 rfl) ?_
  refine lv_lload_n B.1 B.2.1 dL_start_6 rfl (lv_at hl 3 rfl) ?_
  refine c_V B hH hl hc hRm (C := RX12) (T := TX12) (N := 9) (ci := 12) (As := [.int (i32 v1), .int (i32 v2), .long v3]) (ok_X12_start hl0 hT σ th v1 v2 v3 g1 g2 hth hG hY h) wcL_37 3 hd_X12_start ⟨by rw [hRR]; exact Nat.le_refl _, by rw [hRR]; exact Nat.le_refl _⟩ hth.1 hth.2 (by decide) rfl rfl (rest := [.int (i32 0), .ref o]) rfl (Nat.le_of_ble_eq_true rfl) dL_start_7 (fun σ1 w9 hq => ?_) (fun σ9 E9 hx9 => ?_)
  · obtain ⟨r, rfl, gr, hq, hG1, hY1, hE1⟩ := hq
    intro H locs ls hH hl hc
    have ho1 := ho.here hH.2.2 hna
    refine W.eq (g2 := F0 m 10 ls [.int (i32 r), .int (i32 0), .ref o]) rfl ?_
    refine lv_i2l B.1 B.2.1 dL_start_10 (i32_i64 gr) ?_
    refine o_last B hT hH ho1 hna dL_start_11 (fun H1 locs1 hP1 hS1 ho2 => ?_)
    refine lv_goto (tgt := 23) B.1 B.2.1 dL_start_12 (by decide) ?_
    refine lv_iconst (v := i32 0) B.1 B.2.1 dL_start_23 (by decide) ?_
    exact eo_ret B hP1 hH.2.1 hS1 ho2 hc (by unfold rng; omega) hr hlocks ⟨Or.inl ⟨r, hq, rfl, rfl⟩, hG1, hY1, hE1⟩ dL_start_24
  · obtain ⟨hx, hG1, hY1, hE1⟩ := hx9
    intro H locs ls ce q hH hl hc hce hcv hcl
    have ho1 := ho.here hH.2.2 hna
    rcases hXE σ9 E9 hx with rfl | rfl
    · refine vx_catch (own := RL) (name := "java/lang/IllegalStateException") (E := "java/lang/IllegalStateException") B.2.2.1 [] ⟨0, 12, 15, 21⟩ [⟨0, 12, 19, 13⟩] (htab.trans rfl) (fun z9 hz9 => nomatch hz9) rfl (by decide) (B.2.2.2.1 _ wlL_21) (cs_of B (by decide)) hce hcv hcl ?_
      refine W.eq (g2 := F0 m 15 ls [va_rf (some q)]) rfl ?_
      refine lv_astoreQ (lv' := [(6, va_rf (some q)), (0, .ref th), (1, .int (i32 v1)), (2, .int (i32 v2)), (3, .long v3), (5, .ref o)]) B.1 B.2.1 dL_start_15 hl (by decide) rfl (fun ls hl => ?_)
      refine lv_iconst (v := i32 1) B.1 B.2.1 dL_start_17 (by decide) ?_
      exact eo_ret B hH.1 hH.2.1 (So hH.2.2) ho1 hc (by unfold rng; omega) hr hlocks ⟨Or.inr ⟨"java/lang/IllegalStateException", hx, rfl, rfl⟩, hG1, hY1, hE1⟩ dL_start_18
    · refine vx_catch (own := RL) (name := "java/lang/IllegalArgumentException") (E := "java/lang/IllegalArgumentException") B.2.2.1 [⟨0, 12, 15, 21⟩] ⟨0, 12, 19, 13⟩ [] (htab.trans rfl) ((List.forall_mem_cons.mpr ⟨Or.inr ⟨by decide, "java/lang/IllegalStateException", B.2.2.2.1 _ wlL_21, nc_of B (by decide)⟩, (fun _ h => nomatch h)⟩)) rfl (by decide) (B.2.2.2.1 _ wlL_13) (cs_of B (by decide)) hce hcv hcl ?_
      refine W.eq (g2 := F0 m 19 ls [va_rf (some q)]) rfl ?_
      refine lv_astoreQ (lv' := [(6, va_rf (some q)), (0, .ref th), (1, .int (i32 v1)), (2, .int (i32 v2)), (3, .long v3), (5, .ref o)]) B.1 B.2.1 dL_start_19 hl (by decide) rfl (fun ls hl => ?_)
      refine lv_iconst (v := i32 2) B.1 B.2.1 dL_start_21 (by decide) ?_
      exact eo_ret B hH.1 hH.2.1 (So hH.2.2) ho1 hc (by unfold rng; omega) hr hlocks ⟨Or.inr ⟨"java/lang/IllegalArgumentException", hx, rfl, rfl⟩, hG1, hY1, hE1⟩ dL_start_22
def cd_turn (E : String) : Int := if E = "java/lang/IllegalStateException" then 1 else if E = "java/lang/IllegalArgumentException" then 2 else 0
theorem dL_turn_0 : decode cL_turn 0 = .ok (.aload_n 2, 1) := by decide +kernel
theorem dL_turn_1 : decode cL_turn 1 = .ok (.iconst 0, 1) := by decide +kernel
theorem dL_turn_2 : decode cL_turn 2 = .ok (.aload_n 0, 1) := by decide +kernel
theorem dL_turn_3 : decode cL_turn 3 = .ok (.iload_n 1, 1) := by decide +kernel
theorem dL_turn_4 : decode cL_turn 4 = .ok (.invokevirtual 41, 3) := by decide +kernel
theorem dL_turn_7 : decode cL_turn 7 = .ok (.i2l, 1) := by decide +kernel
theorem dL_turn_8 : decode cL_turn 8 = .ok (.lastore, 1) := by decide +kernel
theorem dL_turn_9 : decode cL_turn 9 = .ok (.goto 9, 3) := by decide +kernel
theorem dL_turn_12 : decode cL_turn 12 = .ok (.astore_n 3, 1) := by decide +kernel
theorem dL_turn_13 : decode cL_turn 13 = .ok (.iconst 1, 1) := by decide +kernel
theorem dL_turn_14 : decode cL_turn 14 = .ok (.ireturn, 1) := by decide +kernel
theorem dL_turn_15 : decode cL_turn 15 = .ok (.astore_n 3, 1) := by decide +kernel
theorem dL_turn_16 : decode cL_turn 16 = .ok (.iconst 2, 1) := by decide +kernel
theorem dL_turn_17 : decode cL_turn 17 = .ok (.ireturn, 1) := by decide +kernel
theorem dL_turn_18 : decode cL_turn 18 = .ok (.iconst 0, 1) := by decide +kernel
theorem dL_turn_19 : decode cL_turn 19 = .ok (.ireturn, 1) := by decide +kernel
set_option maxRecDepth 20000 in
theorem okw_turn (hl0 : l.stackTraces = false) (hT : TyC cA tys) {Q : Sg → Int → Prop} {X : Sg → String → Prop} {th o : Nat} {v : Int64} {v1 : Int} (g1 : rng v1) (hth : kO σ th 12) (hG : RG σ) (hY : TY σ) (h : wp_X12_turn th v1 σ Q X) (hXE : ∀ σ' E, X σ' E → E = "java/lang/IllegalStateException" ∨ E = "java/lang/IllegalArgumentException") : Okw l D cA tys A o v yL_turn (.codeWith yL_turn cL_turn 4 (some .int) [(0, 9, 12, 21), (0, 9, 15, 13)]) 14 296 [.ref th, .int (i32 v1), .ref o] σ (fun σ' k v' => ((∃ r : Int, Q σ' r ∧ k = 0 ∧ v' = Int64.ofInt r) ∨ (∃ E, X σ' E ∧ k = cd_turn E ∧ v' = v)) ∧ RG σ' ∧ TY σ' ∧ Ext σ σ') := by
  refine okw_of (by decide) (Nat.le_of_ble_eq_true rfl) ?_
  intro p e R s m args below meth c hRR B hr hlocks htab ho hna H locs ls hH hl hc
  have hl : lv_has ls 4 [(0, .ref th), (1, .int (i32 v1)), (2, .ref o)] := hl
  have hRm : Rm R (gc σ) (gs σ) := by rw [hRR]; exact ⟨rfl, rfl⟩
  refine lv_aload_n B.1 B.2.1 dL_turn_0 rfl (lv_at hl 2 rfl) ?_
  refine lv_iconst (v := i32 0) B.1 B.2.1 dL_turn_1 (by decide) ?_
  refine lv_aload_n B.1 B.2.1 dL_turn_2 rfl (lv_at hl 0 rfl) ?_
  refine lv_iload_n B.1 B.2.1 dL_turn_3 rfl (lv_at hl 1 rfl) ?_
  refine c_V B hH hl hc hRm (C := RX12) (T := TX12) (N := 9) (ci := 12) (As := [.int (i32 v1)]) (ok_X12_turn hl0 hT σ th v1 g1 hth hG hY h) wcL_41 1 hd_X12_turn ⟨by rw [hRR]; exact Nat.le_refl _, by rw [hRR]; exact Nat.le_refl _⟩ hth.1 hth.2 (by decide) rfl rfl (rest := [.int (i32 0), .ref o]) rfl (Nat.le_of_ble_eq_true rfl) dL_turn_4 (fun σ1 w9 hq => ?_) (fun σ9 E9 hx9 => ?_)
  · obtain ⟨r, rfl, gr, hq, hG1, hY1, hE1⟩ := hq
    intro H locs ls hH hl hc
    have ho1 := ho.here hH.2.2 hna
    refine W.eq (g2 := F0 m 7 ls [.int (i32 r), .int (i32 0), .ref o]) rfl ?_
    refine lv_i2l B.1 B.2.1 dL_turn_7 (i32_i64 gr) ?_
    refine o_last B hT hH ho1 hna dL_turn_8 (fun H1 locs1 hP1 hS1 ho2 => ?_)
    refine lv_goto (tgt := 18) B.1 B.2.1 dL_turn_9 (by decide) ?_
    refine lv_iconst (v := i32 0) B.1 B.2.1 dL_turn_18 (by decide) ?_
    exact eo_ret B hP1 hH.2.1 hS1 ho2 hc (by unfold rng; omega) hr hlocks ⟨Or.inl ⟨r, hq, rfl, rfl⟩, hG1, hY1, hE1⟩ dL_turn_19
  · obtain ⟨hx, hG1, hY1, hE1⟩ := hx9
    intro H locs ls ce q hH hl hc hce hcv hcl
    have ho1 := ho.here hH.2.2 hna
    rcases hXE σ9 E9 hx with rfl | rfl
    · refine vx_catch (own := RL) (name := "java/lang/IllegalStateException") (E := "java/lang/IllegalStateException") B.2.2.1 [] ⟨0, 9, 12, 21⟩ [⟨0, 9, 15, 13⟩] (htab.trans rfl) (fun z9 hz9 => nomatch hz9) rfl (by decide) (B.2.2.2.1 _ wlL_21) (cs_of B (by decide)) hce hcv hcl ?_
      refine W.eq (g2 := F0 m 12 ls [va_rf (some q)]) rfl ?_
      refine lv_astore_nQ (lv' := [(3, va_rf (some q)), (0, .ref th), (1, .int (i32 v1)), (2, .ref o)]) B.1 B.2.1 dL_turn_12 rfl hl (by decide) rfl (fun ls hl => ?_)
      refine lv_iconst (v := i32 1) B.1 B.2.1 dL_turn_13 (by decide) ?_
      exact eo_ret B hH.1 hH.2.1 (So hH.2.2) ho1 hc (by unfold rng; omega) hr hlocks ⟨Or.inr ⟨"java/lang/IllegalStateException", hx, rfl, rfl⟩, hG1, hY1, hE1⟩ dL_turn_14
    · refine vx_catch (own := RL) (name := "java/lang/IllegalArgumentException") (E := "java/lang/IllegalArgumentException") B.2.2.1 [⟨0, 9, 12, 21⟩] ⟨0, 9, 15, 13⟩ [] (htab.trans rfl) ((List.forall_mem_cons.mpr ⟨Or.inr ⟨by decide, "java/lang/IllegalStateException", B.2.2.2.1 _ wlL_21, nc_of B (by decide)⟩, (fun _ h => nomatch h)⟩)) rfl (by decide) (B.2.2.2.1 _ wlL_13) (cs_of B (by decide)) hce hcv hcl ?_
      refine W.eq (g2 := F0 m 15 ls [va_rf (some q)]) rfl ?_
      refine lv_astore_nQ (lv' := [(3, va_rf (some q)), (0, .ref th), (1, .int (i32 v1)), (2, .ref o)]) B.1 B.2.1 dL_turn_15 rfl hl (by decide) rfl (fun ls hl => ?_)
      refine lv_iconst (v := i32 2) B.1 B.2.1 dL_turn_16 (by decide) ?_
      exact eo_ret B hH.1 hH.2.1 (So hH.2.2) ho1 hc (by unfold rng; omega) hr hlocks ⟨Or.inr ⟨"java/lang/IllegalArgumentException", hx, rfl, rfl⟩, hG1, hY1, hE1⟩ dL_turn_17
def cd_mark (E : String) : Int := if E = "java/lang/IllegalStateException" then 1 else 0
theorem dL_mark_0 : decode cL_mark 0 = .ok (.aload_n 1, 1) := by decide +kernel
theorem dL_mark_1 : decode cL_mark 1 = .ok (.iconst 0, 1) := by decide +kernel
theorem dL_mark_2 : decode cL_mark 2 = .ok (.aload_n 0, 1) := by decide +kernel
theorem dL_mark_3 : decode cL_mark 3 = .ok (.invokevirtual 45, 3) := by decide +kernel
theorem dL_mark_6 : decode cL_mark 6 = .ok (.i2l, 1) := by decide +kernel
theorem dL_mark_7 : decode cL_mark 7 = .ok (.lastore, 1) := by decide +kernel
theorem dL_mark_8 : decode cL_mark 8 = .ok (.goto 6, 3) := by decide +kernel
theorem dL_mark_11 : decode cL_mark 11 = .ok (.astore_n 2, 1) := by decide +kernel
theorem dL_mark_12 : decode cL_mark 12 = .ok (.iconst 1, 1) := by decide +kernel
theorem dL_mark_13 : decode cL_mark 13 = .ok (.ireturn, 1) := by decide +kernel
theorem dL_mark_14 : decode cL_mark 14 = .ok (.iconst 0, 1) := by decide +kernel
theorem dL_mark_15 : decode cL_mark 15 = .ok (.ireturn, 1) := by decide +kernel
set_option maxRecDepth 20000 in
theorem okw_mark (hl0 : l.stackTraces = false) (hT : TyC cA tys) {Q : Sg → Int → Prop} {X : Sg → String → Prop} {th o : Nat} {v : Int64} (hth : kO σ th 12) (hG : RG σ) (hY : TY σ) (h : wp_X12_mark th σ Q X) (hXE : ∀ σ' E, X σ' E → E = "java/lang/IllegalStateException") : Okw l D cA tys A o v yL_mark (.codeWith yL_mark cL_mark 3 (some .int) [(0, 8, 11, 21)]) 8 130 [.ref th, .ref o] σ (fun σ' k v' => ((∃ r : Int, Q σ' r ∧ k = 0 ∧ v' = Int64.ofInt r) ∨ (∃ E, X σ' E ∧ k = cd_mark E ∧ v' = v)) ∧ RG σ' ∧ TY σ' ∧ Ext σ σ') := by
  refine okw_of (by decide) (Nat.le_of_ble_eq_true rfl) ?_
  intro p e R s m args below meth c hRR B hr hlocks htab ho hna H locs ls hH hl hc
  have hl : lv_has ls 3 [(0, .ref th), (1, .ref o)] := hl
  have hRm : Rm R (gc σ) (gs σ) := by rw [hRR]; exact ⟨rfl, rfl⟩
  refine lv_aload_n B.1 B.2.1 dL_mark_0 rfl (lv_at hl 1 rfl) ?_
  refine lv_iconst (v := i32 0) B.1 B.2.1 dL_mark_1 (by decide) ?_
  refine lv_aload_n B.1 B.2.1 dL_mark_2 rfl (lv_at hl 0 rfl) ?_
  refine c_V B hH hl hc hRm (C := RX12) (T := TX12) (N := 9) (ci := 12) (As := []) (ok_X12_mark hl0 hT σ th hth hG hY h) wcL_45 0 hd_X12_mark ⟨by rw [hRR]; exact Nat.le_refl _, by rw [hRR]; exact Nat.le_refl _⟩ hth.1 hth.2 (by decide) rfl rfl (rest := [.int (i32 0), .ref o]) rfl (Nat.le_of_ble_eq_true rfl) dL_mark_3 (fun σ1 w9 hq => ?_) (fun σ9 E9 hx9 => ?_)
  · obtain ⟨r, rfl, gr, hq, hG1, hY1, hE1⟩ := hq
    intro H locs ls hH hl hc
    have ho1 := ho.here hH.2.2 hna
    refine W.eq (g2 := F0 m 6 ls [.int (i32 r), .int (i32 0), .ref o]) rfl ?_
    refine lv_i2l B.1 B.2.1 dL_mark_6 (i32_i64 gr) ?_
    refine o_last B hT hH ho1 hna dL_mark_7 (fun H1 locs1 hP1 hS1 ho2 => ?_)
    refine lv_goto (tgt := 14) B.1 B.2.1 dL_mark_8 (by decide) ?_
    refine lv_iconst (v := i32 0) B.1 B.2.1 dL_mark_14 (by decide) ?_
    exact eo_ret B hP1 hH.2.1 hS1 ho2 hc (by unfold rng; omega) hr hlocks ⟨Or.inl ⟨r, hq, rfl, rfl⟩, hG1, hY1, hE1⟩ dL_mark_15
  · obtain ⟨hx, hG1, hY1, hE1⟩ := hx9
    intro H locs ls ce q hH hl hc hce hcv hcl
    have ho1 := ho.here hH.2.2 hna
    obtain rfl := hXE σ9 E9 hx
    refine vx_catch (own := RL) (name := "java/lang/IllegalStateException") (E := "java/lang/IllegalStateException") B.2.2.1 [] ⟨0, 8, 11, 21⟩ [] (htab.trans rfl) (fun z9 hz9 => nomatch hz9) rfl (by decide) (B.2.2.2.1 _ wlL_21) (cs_of B (by decide)) hce hcv hcl ?_
    refine W.eq (g2 := F0 m 11 ls [va_rf (some q)]) rfl ?_
    refine lv_astore_nQ (lv' := [(2, va_rf (some q)), (0, .ref th), (1, .ref o)]) B.1 B.2.1 dL_mark_11 rfl hl (by decide) rfl (fun ls hl => ?_)
    refine lv_iconst (v := i32 1) B.1 B.2.1 dL_mark_12 (by decide) ?_
    exact eo_ret B hH.1 hH.2.1 (So hH.2.2) ho1 hc (by unfold rng; omega) hr hlocks ⟨Or.inr ⟨"java/lang/IllegalStateException", hx, rfl, rfl⟩, hG1, hY1, hE1⟩ dL_mark_13
def cd_fail (E : String) : Int := if E = "java/lang/IllegalStateException" then 1 else 0
theorem dL_fail_0 : decode cL_fail 0 = .ok (.aload_n 1, 1) := by decide +kernel
theorem dL_fail_1 : decode cL_fail 1 = .ok (.iconst 0, 1) := by decide +kernel
theorem dL_fail_2 : decode cL_fail 2 = .ok (.aload_n 0, 1) := by decide +kernel
theorem dL_fail_3 : decode cL_fail 3 = .ok (.invokevirtual 48, 3) := by decide +kernel
theorem dL_fail_6 : decode cL_fail 6 = .ok (.i2l, 1) := by decide +kernel
theorem dL_fail_7 : decode cL_fail 7 = .ok (.lastore, 1) := by decide +kernel
theorem dL_fail_8 : decode cL_fail 8 = .ok (.goto 6, 3) := by decide +kernel
theorem dL_fail_11 : decode cL_fail 11 = .ok (.astore_n 2, 1) := by decide +kernel
theorem dL_fail_12 : decode cL_fail 12 = .ok (.iconst 1, 1) := by decide +kernel
theorem dL_fail_13 : decode cL_fail 13 = .ok (.ireturn, 1) := by decide +kernel
theorem dL_fail_14 : decode cL_fail 14 = .ok (.iconst 0, 1) := by decide +kernel
theorem dL_fail_15 : decode cL_fail 15 = .ok (.ireturn, 1) := by decide +kernel
set_option maxRecDepth 20000 in
theorem okw_fail (hl0 : l.stackTraces = false) (hT : TyC cA tys) {Q : Sg → Int → Prop} {X : Sg → String → Prop} {th o : Nat} {v : Int64} (hth : kO σ th 12) (hG : RG σ) (hY : TY σ) (h : wp_X12_fail th σ Q X) (hXE : ∀ σ' E, X σ' E → E = "java/lang/IllegalStateException") : Okw l D cA tys A o v yL_fail (.codeWith yL_fail cL_fail 3 (some .int) [(0, 8, 11, 21)]) 12 228 [.ref th, .ref o] σ (fun σ' k v' => ((∃ r : Int, Q σ' r ∧ k = 0 ∧ v' = Int64.ofInt r) ∨ (∃ E, X σ' E ∧ k = cd_fail E ∧ v' = v)) ∧ RG σ' ∧ TY σ' ∧ Ext σ σ') := by
  refine okw_of (by decide) (Nat.le_of_ble_eq_true rfl) ?_
  intro p e R s m args below meth c hRR B hr hlocks htab ho hna H locs ls hH hl hc
  have hl : lv_has ls 3 [(0, .ref th), (1, .ref o)] := hl
  have hRm : Rm R (gc σ) (gs σ) := by rw [hRR]; exact ⟨rfl, rfl⟩
  refine lv_aload_n B.1 B.2.1 dL_fail_0 rfl (lv_at hl 1 rfl) ?_
  refine lv_iconst (v := i32 0) B.1 B.2.1 dL_fail_1 (by decide) ?_
  refine lv_aload_n B.1 B.2.1 dL_fail_2 rfl (lv_at hl 0 rfl) ?_
  refine c_V B hH hl hc hRm (C := RX12) (T := TX12) (N := 9) (ci := 12) (As := []) (ok_X12_fail hl0 hT σ th hth hG hY h) wcL_48 0 hd_X12_fail ⟨by rw [hRR]; exact Nat.le_refl _, by rw [hRR]; exact Nat.le_refl _⟩ hth.1 hth.2 (by decide) rfl rfl (rest := [.int (i32 0), .ref o]) rfl (Nat.le_of_ble_eq_true rfl) dL_fail_3 (fun σ1 w9 hq => ?_) (fun σ9 E9 hx9 => ?_)
  · obtain ⟨r, rfl, gr, hq, hG1, hY1, hE1⟩ := hq
    intro H locs ls hH hl hc
    have ho1 := ho.here hH.2.2 hna
    refine W.eq (g2 := F0 m 6 ls [.int (i32 r), .int (i32 0), .ref o]) rfl ?_
    refine lv_i2l B.1 B.2.1 dL_fail_6 (i32_i64 gr) ?_
    refine o_last B hT hH ho1 hna dL_fail_7 (fun H1 locs1 hP1 hS1 ho2 => ?_)
    refine lv_goto (tgt := 14) B.1 B.2.1 dL_fail_8 (by decide) ?_
    refine lv_iconst (v := i32 0) B.1 B.2.1 dL_fail_14 (by decide) ?_
    exact eo_ret B hP1 hH.2.1 hS1 ho2 hc (by unfold rng; omega) hr hlocks ⟨Or.inl ⟨r, hq, rfl, rfl⟩, hG1, hY1, hE1⟩ dL_fail_15
  · obtain ⟨hx, hG1, hY1, hE1⟩ := hx9
    intro H locs ls ce q hH hl hc hce hcv hcl
    have ho1 := ho.here hH.2.2 hna
    obtain rfl := hXE σ9 E9 hx
    refine vx_catch (own := RL) (name := "java/lang/IllegalStateException") (E := "java/lang/IllegalStateException") B.2.2.1 [] ⟨0, 8, 11, 21⟩ [] (htab.trans rfl) (fun z9 hz9 => nomatch hz9) rfl (by decide) (B.2.2.2.1 _ wlL_21) (cs_of B (by decide)) hce hcv hcl ?_
    refine W.eq (g2 := F0 m 11 ls [va_rf (some q)]) rfl ?_
    refine lv_astore_nQ (lv' := [(2, va_rf (some q)), (0, .ref th), (1, .ref o)]) B.1 B.2.1 dL_fail_11 rfl hl (by decide) rfl (fun ls hl => ?_)
    refine lv_iconst (v := i32 1) B.1 B.2.1 dL_fail_12 (by decide) ?_
    exact eo_ret B hH.1 hH.2.1 (So hH.2.2) ho1 hc (by unfold rng; omega) hr hlocks ⟨Or.inr ⟨"java/lang/IllegalStateException", hx, rfl, rfl⟩, hG1, hY1, hE1⟩ dL_fail_13
def cd_rescale (E : String) : Int := if E = "java/lang/IllegalStateException" then 1 else if E = "java/lang/IllegalArgumentException" then 2 else 0
theorem dL_rescale_0 : decode cL_rescale 0 = .ok (.aload_n 2, 1) := by decide +kernel
theorem dL_rescale_1 : decode cL_rescale 1 = .ok (.iconst 0, 1) := by decide +kernel
theorem dL_rescale_2 : decode cL_rescale 2 = .ok (.aload_n 0, 1) := by decide +kernel
theorem dL_rescale_3 : decode cL_rescale 3 = .ok (.iload_n 1, 1) := by decide +kernel
theorem dL_rescale_4 : decode cL_rescale 4 = .ok (.invokevirtual 51, 3) := by decide +kernel
theorem dL_rescale_7 : decode cL_rescale 7 = .ok (.i2l, 1) := by decide +kernel
theorem dL_rescale_8 : decode cL_rescale 8 = .ok (.lastore, 1) := by decide +kernel
theorem dL_rescale_9 : decode cL_rescale 9 = .ok (.goto 9, 3) := by decide +kernel
theorem dL_rescale_12 : decode cL_rescale 12 = .ok (.astore_n 3, 1) := by decide +kernel
theorem dL_rescale_13 : decode cL_rescale 13 = .ok (.iconst 1, 1) := by decide +kernel
theorem dL_rescale_14 : decode cL_rescale 14 = .ok (.ireturn, 1) := by decide +kernel
theorem dL_rescale_15 : decode cL_rescale 15 = .ok (.astore_n 3, 1) := by decide +kernel
theorem dL_rescale_16 : decode cL_rescale 16 = .ok (.iconst 2, 1) := by decide +kernel
theorem dL_rescale_17 : decode cL_rescale 17 = .ok (.ireturn, 1) := by decide +kernel
theorem dL_rescale_18 : decode cL_rescale 18 = .ok (.iconst 0, 1) := by decide +kernel
theorem dL_rescale_19 : decode cL_rescale 19 = .ok (.ireturn, 1) := by decide +kernel
set_option maxRecDepth 20000 in
theorem okw_rescale (hl0 : l.stackTraces = false) (hT : TyC cA tys) {Q : Sg → Int → Prop} {X : Sg → String → Prop} {th o : Nat} {v : Int64} {v1 : Int} (g1 : rng v1) (hth : kO σ th 12) (hG : RG σ) (hY : TY σ) (h : wp_X12_rescale th v1 σ Q X) (hXE : ∀ σ' E, X σ' E → E = "java/lang/IllegalStateException" ∨ E = "java/lang/IllegalArgumentException") : Okw l D cA tys A o v yL_rescale (.codeWith yL_rescale cL_rescale 4 (some .int) [(0, 9, 12, 21), (0, 9, 15, 13)]) 12 229 [.ref th, .int (i32 v1), .ref o] σ (fun σ' k v' => ((∃ r : Int, Q σ' r ∧ k = 0 ∧ v' = Int64.ofInt r) ∨ (∃ E, X σ' E ∧ k = cd_rescale E ∧ v' = v)) ∧ RG σ' ∧ TY σ' ∧ Ext σ σ') := by
  refine okw_of (by decide) (Nat.le_of_ble_eq_true rfl) ?_
  intro p e R s m args below meth c hRR B hr hlocks htab ho hna H locs ls hH hl hc
  have hl : lv_has ls 4 [(0, .ref th), (1, .int (i32 v1)), (2, .ref o)] := hl
  have hRm : Rm R (gc σ) (gs σ) := by rw [hRR]; exact ⟨rfl, rfl⟩
  refine lv_aload_n B.1 B.2.1 dL_rescale_0 rfl (lv_at hl 2 rfl) ?_
  refine lv_iconst (v := i32 0) B.1 B.2.1 dL_rescale_1 (by decide) ?_
  refine lv_aload_n B.1 B.2.1 dL_rescale_2 rfl (lv_at hl 0 rfl) ?_
  refine lv_iload_n B.1 B.2.1 dL_rescale_3 rfl (lv_at hl 1 rfl) ?_
  refine c_V B hH hl hc hRm (C := RX12) (T := TX12) (N := 9) (ci := 12) (As := [.int (i32 v1)]) (ok_X12_rescale hl0 hT σ th v1 g1 hth hG hY h) wcL_51 1 hd_X12_rescale ⟨by rw [hRR]; exact Nat.le_refl _, by rw [hRR]; exact Nat.le_refl _⟩ hth.1 hth.2 (by decide) rfl rfl (rest := [.int (i32 0), .ref o]) rfl (Nat.le_of_ble_eq_true rfl) dL_rescale_4 (fun σ1 w9 hq => ?_) (fun σ9 E9 hx9 => ?_)
  · obtain ⟨r, rfl, gr, hq, hG1, hY1, hE1⟩ := hq
    intro H locs ls hH hl hc
    have ho1 := ho.here hH.2.2 hna
    refine W.eq (g2 := F0 m 7 ls [.int (i32 r), .int (i32 0), .ref o]) rfl ?_
    refine lv_i2l B.1 B.2.1 dL_rescale_7 (i32_i64 gr) ?_
    refine o_last B hT hH ho1 hna dL_rescale_8 (fun H1 locs1 hP1 hS1 ho2 => ?_)
    refine lv_goto (tgt := 18) B.1 B.2.1 dL_rescale_9 (by decide) ?_
    refine lv_iconst (v := i32 0) B.1 B.2.1 dL_rescale_18 (by decide) ?_
    exact eo_ret B hP1 hH.2.1 hS1 ho2 hc (by unfold rng; omega) hr hlocks ⟨Or.inl ⟨r, hq, rfl, rfl⟩, hG1, hY1, hE1⟩ dL_rescale_19
  · obtain ⟨hx, hG1, hY1, hE1⟩ := hx9
    intro H locs ls ce q hH hl hc hce hcv hcl
    have ho1 := ho.here hH.2.2 hna
    rcases hXE σ9 E9 hx with rfl | rfl
    · refine vx_catch (own := RL) (name := "java/lang/IllegalStateException") (E := "java/lang/IllegalStateException") B.2.2.1 [] ⟨0, 9, 12, 21⟩ [⟨0, 9, 15, 13⟩] (htab.trans rfl) (fun z9 hz9 => nomatch hz9) rfl (by decide) (B.2.2.2.1 _ wlL_21) (cs_of B (by decide)) hce hcv hcl ?_
      refine W.eq (g2 := F0 m 12 ls [va_rf (some q)]) rfl ?_
      refine lv_astore_nQ (lv' := [(3, va_rf (some q)), (0, .ref th), (1, .int (i32 v1)), (2, .ref o)]) B.1 B.2.1 dL_rescale_12 rfl hl (by decide) rfl (fun ls hl => ?_)
      refine lv_iconst (v := i32 1) B.1 B.2.1 dL_rescale_13 (by decide) ?_
      exact eo_ret B hH.1 hH.2.1 (So hH.2.2) ho1 hc (by unfold rng; omega) hr hlocks ⟨Or.inr ⟨"java/lang/IllegalStateException", hx, rfl, rfl⟩, hG1, hY1, hE1⟩ dL_rescale_14
    · refine vx_catch (own := RL) (name := "java/lang/IllegalArgumentException") (E := "java/lang/IllegalArgumentException") B.2.2.1 [⟨0, 9, 12, 21⟩] ⟨0, 9, 15, 13⟩ [] (htab.trans rfl) ((List.forall_mem_cons.mpr ⟨Or.inr ⟨by decide, "java/lang/IllegalStateException", B.2.2.2.1 _ wlL_21, nc_of B (by decide)⟩, (fun _ h => nomatch h)⟩)) rfl (by decide) (B.2.2.2.1 _ wlL_13) (cs_of B (by decide)) hce hcv hcl ?_
      refine W.eq (g2 := F0 m 15 ls [va_rf (some q)]) rfl ?_
      refine lv_astore_nQ (lv' := [(3, va_rf (some q)), (0, .ref th), (1, .int (i32 v1)), (2, .ref o)]) B.1 B.2.1 dL_rescale_15 rfl hl (by decide) rfl (fun ls hl => ?_)
      refine lv_iconst (v := i32 2) B.1 B.2.1 dL_rescale_16 (by decide) ?_
      exact eo_ret B hH.1 hH.2.1 (So hH.2.2) ho1 hc (by unfold rng; omega) hr hlocks ⟨Or.inr ⟨"java/lang/IllegalArgumentException", hx, rfl, rfl⟩, hG1, hY1, hE1⟩ dL_rescale_17
def cd_crash (E : String) : Int := if E = "java/lang/IllegalStateException" then 1 else if E = "java/lang/IllegalArgumentException" then 2 else 0
theorem dL_crash_0 : decode cL_crash 0 = .ok (.aload_n 0, 1) := by decide +kernel
theorem dL_crash_1 : decode cL_crash 1 = .ok (.iload_n 1, 1) := by decide +kernel
theorem dL_crash_2 : decode cL_crash 2 = .ok (.invokevirtual 54, 3) := by decide +kernel
theorem dL_crash_5 : decode cL_crash 5 = .ok (.goto 9, 3) := by decide +kernel
theorem dL_crash_8 : decode cL_crash 8 = .ok (.astore_n 2, 1) := by decide +kernel
theorem dL_crash_9 : decode cL_crash 9 = .ok (.iconst 1, 1) := by decide +kernel
theorem dL_crash_10 : decode cL_crash 10 = .ok (.ireturn, 1) := by decide +kernel
theorem dL_crash_11 : decode cL_crash 11 = .ok (.astore_n 2, 1) := by decide +kernel
theorem dL_crash_12 : decode cL_crash 12 = .ok (.iconst 2, 1) := by decide +kernel
theorem dL_crash_13 : decode cL_crash 13 = .ok (.ireturn, 1) := by decide +kernel
theorem dL_crash_14 : decode cL_crash 14 = .ok (.iconst 0, 1) := by decide +kernel
theorem dL_crash_15 : decode cL_crash 15 = .ok (.ireturn, 1) := by decide +kernel
set_option maxRecDepth 20000 in
theorem okw_crash (hl0 : l.stackTraces = false) (hT : TyC cA tys) {Q : Sg → Unit → Prop} {X : Sg → String → Prop} {th o : Nat} {v : Int64} {v1 : Int} (g1 : rng v1) (hth : kO σ th 12) (hG : RG σ) (hY : TY σ) (h : wp_X12_crash th v1 σ Q X) (hXE : ∀ σ' E, X σ' E → E = "java/lang/IllegalStateException" ∨ E = "java/lang/IllegalArgumentException") : Okw l D cA tys A o v yL_crash (.codeWith yL_crash cL_crash 3 (some .int) [(0, 5, 8, 21), (0, 5, 11, 13)]) 7 111 [.ref th, .int (i32 v1)] σ (fun σ' k v' => ((∃ r : Unit, Q σ' r ∧ k = 0 ∧ v' = v) ∨ (∃ E, X σ' E ∧ k = cd_crash E ∧ v' = v)) ∧ RG σ' ∧ TY σ' ∧ Ext σ σ') := by
  refine okw_of (by decide) (Nat.le_of_ble_eq_true rfl) ?_
  intro p e R s m args below meth c hRR B hr hlocks htab ho hna H locs ls hH hl hc
  have hl : lv_has ls 3 [(0, .ref th), (1, .int (i32 v1))] := hl
  have hRm : Rm R (gc σ) (gs σ) := by rw [hRR]; exact ⟨rfl, rfl⟩
  refine lv_aload_n B.1 B.2.1 dL_crash_0 rfl (lv_at hl 0 rfl) ?_
  refine lv_iload_n B.1 B.2.1 dL_crash_1 rfl (lv_at hl 1 rfl) ?_
  refine c_V B hH hl hc hRm (C := RX12) (T := TX12) (N := 9) (ci := 12) (As := [.int (i32 v1)]) (ok_X12_crash hl0 hT σ th v1 g1 hth hG hY h) wcL_54 1 hd_X12_crash ⟨by rw [hRR]; exact Nat.le_refl _, by rw [hRR]; exact Nat.le_refl _⟩ hth.1 hth.2 (by decide) rfl rfl (rest := []) rfl (Nat.le_of_ble_eq_true rfl) dL_crash_2 (fun σ1 w9 hq => ?_) (fun σ9 E9 hx9 => ?_)
  · obtain ⟨rfl, hq, hG1, hY1, hE1⟩ := hq
    intro H locs ls hH hl hc
    have ho1 := ho.here hH.2.2 hna
    refine W.eq (g2 := F0 m 5 ls []) rfl ?_
    refine lv_goto (tgt := 14) B.1 B.2.1 dL_crash_5 (by decide) ?_
    refine lv_iconst (v := i32 0) B.1 B.2.1 dL_crash_14 (by decide) ?_
    exact eo_ret B hH.1 hH.2.1 (So hH.2.2) ho1 hc (by unfold rng; omega) hr hlocks ⟨Or.inl ⟨(), hq, rfl, rfl⟩, hG1, hY1, hE1⟩ dL_crash_15
  · obtain ⟨hx, hG1, hY1, hE1⟩ := hx9
    intro H locs ls ce q hH hl hc hce hcv hcl
    have ho1 := ho.here hH.2.2 hna
    rcases hXE σ9 E9 hx with rfl | rfl
    · refine vx_catch (own := RL) (name := "java/lang/IllegalStateException") (E := "java/lang/IllegalStateException") B.2.2.1 [] ⟨0, 5, 8, 21⟩ [⟨0, 5, 11, 13⟩] (htab.trans rfl) (fun z9 hz9 => nomatch hz9) rfl (by decide) (B.2.2.2.1 _ wlL_21) (cs_of B (by decide)) hce hcv hcl ?_
      refine W.eq (g2 := F0 m 8 ls [va_rf (some q)]) rfl ?_
      refine lv_astore_nQ (lv' := [(2, va_rf (some q)), (0, .ref th), (1, .int (i32 v1))]) B.1 B.2.1 dL_crash_8 rfl hl (by decide) rfl (fun ls hl => ?_)
      refine lv_iconst (v := i32 1) B.1 B.2.1 dL_crash_9 (by decide) ?_
      exact eo_ret B hH.1 hH.2.1 (So hH.2.2) ho1 hc (by unfold rng; omega) hr hlocks ⟨Or.inr ⟨"java/lang/IllegalStateException", hx, rfl, rfl⟩, hG1, hY1, hE1⟩ dL_crash_10
    · refine vx_catch (own := RL) (name := "java/lang/IllegalArgumentException") (E := "java/lang/IllegalArgumentException") B.2.2.1 [⟨0, 5, 8, 21⟩] ⟨0, 5, 11, 13⟩ [] (htab.trans rfl) ((List.forall_mem_cons.mpr ⟨Or.inr ⟨by decide, "java/lang/IllegalStateException", B.2.2.2.1 _ wlL_21, nc_of B (by decide)⟩, (fun _ h => nomatch h)⟩)) rfl (by decide) (B.2.2.2.1 _ wlL_13) (cs_of B (by decide)) hce hcv hcl ?_
      refine W.eq (g2 := F0 m 11 ls [va_rf (some q)]) rfl ?_
      refine lv_astore_nQ (lv' := [(2, va_rf (some q)), (0, .ref th), (1, .int (i32 v1))]) B.1 B.2.1 dL_crash_11 rfl hl (by decide) rfl (fun ls hl => ?_)
      refine lv_iconst (v := i32 2) B.1 B.2.1 dL_crash_12 (by decide) ?_
      exact eo_ret B hH.1 hH.2.1 (So hH.2.2) ho1 hc (by unfold rng; omega) hr hlocks ⟨Or.inr ⟨"java/lang/IllegalArgumentException", hx, rfl, rfl⟩, hG1, hY1, hE1⟩ dL_crash_13
def cd_reopen (E : String) : Int := if E = "java/lang/IllegalStateException" then 1 else 0
theorem dL_reopen_0 : decode cL_reopen 0 = .ok (.aload_n 1, 1) := by decide +kernel
theorem dL_reopen_1 : decode cL_reopen 1 = .ok (.iconst 0, 1) := by decide +kernel
theorem dL_reopen_2 : decode cL_reopen 2 = .ok (.aload_n 0, 1) := by decide +kernel
theorem dL_reopen_3 : decode cL_reopen 3 = .ok (.invokevirtual 58, 3) := by decide +kernel
theorem dL_reopen_6 : decode cL_reopen 6 = .ok (.i2l, 1) := by decide +kernel
theorem dL_reopen_7 : decode cL_reopen 7 = .ok (.lastore, 1) := by decide +kernel
theorem dL_reopen_8 : decode cL_reopen 8 = .ok (.goto 6, 3) := by decide +kernel
theorem dL_reopen_11 : decode cL_reopen 11 = .ok (.astore_n 2, 1) := by decide +kernel
theorem dL_reopen_12 : decode cL_reopen 12 = .ok (.iconst 1, 1) := by decide +kernel
theorem dL_reopen_13 : decode cL_reopen 13 = .ok (.ireturn, 1) := by decide +kernel
theorem dL_reopen_14 : decode cL_reopen 14 = .ok (.iconst 0, 1) := by decide +kernel
theorem dL_reopen_15 : decode cL_reopen 15 = .ok (.ireturn, 1) := by decide +kernel
set_option maxRecDepth 20000 in
theorem okw_reopen (hl0 : l.stackTraces = false) (hT : TyC cA tys) {Q : Sg → Int → Prop} {X : Sg → String → Prop} {th o : Nat} {v : Int64} (hth : kO σ th 12) (hG : RG σ) (hY : TY σ) (h : wp_X12_reopen th σ Q X) (hXE : ∀ σ' E, X σ' E → E = "java/lang/IllegalStateException") : Okw l D cA tys A o v yL_reopen (.codeWith yL_reopen cL_reopen 3 (some .int) [(0, 8, 11, 21)]) 12 228 [.ref th, .ref o] σ (fun σ' k v' => ((∃ r : Int, Q σ' r ∧ k = 0 ∧ v' = Int64.ofInt r) ∨ (∃ E, X σ' E ∧ k = cd_reopen E ∧ v' = v)) ∧ RG σ' ∧ TY σ' ∧ Ext σ σ') := by
  refine okw_of (by decide) (Nat.le_of_ble_eq_true rfl) ?_
  intro p e R s m args below meth c hRR B hr hlocks htab ho hna H locs ls hH hl hc
  have hl : lv_has ls 3 [(0, .ref th), (1, .ref o)] := hl
  have hRm : Rm R (gc σ) (gs σ) := by rw [hRR]; exact ⟨rfl, rfl⟩
  refine lv_aload_n B.1 B.2.1 dL_reopen_0 rfl (lv_at hl 1 rfl) ?_
  refine lv_iconst (v := i32 0) B.1 B.2.1 dL_reopen_1 (by decide) ?_
  refine lv_aload_n B.1 B.2.1 dL_reopen_2 rfl (lv_at hl 0 rfl) ?_
  refine c_V B hH hl hc hRm (C := RX12) (T := TX12) (N := 9) (ci := 12) (As := []) (ok_X12_reopen hl0 hT σ th hth hG hY h) wcL_58 0 hd_X12_reopen ⟨by rw [hRR]; exact Nat.le_refl _, by rw [hRR]; exact Nat.le_refl _⟩ hth.1 hth.2 (by decide) rfl rfl (rest := [.int (i32 0), .ref o]) rfl (Nat.le_of_ble_eq_true rfl) dL_reopen_3 (fun σ1 w9 hq => ?_) (fun σ9 E9 hx9 => ?_)
  · obtain ⟨r, rfl, gr, hq, hG1, hY1, hE1⟩ := hq
    intro H locs ls hH hl hc
    have ho1 := ho.here hH.2.2 hna
    refine W.eq (g2 := F0 m 6 ls [.int (i32 r), .int (i32 0), .ref o]) rfl ?_
    refine lv_i2l B.1 B.2.1 dL_reopen_6 (i32_i64 gr) ?_
    refine o_last B hT hH ho1 hna dL_reopen_7 (fun H1 locs1 hP1 hS1 ho2 => ?_)
    refine lv_goto (tgt := 14) B.1 B.2.1 dL_reopen_8 (by decide) ?_
    refine lv_iconst (v := i32 0) B.1 B.2.1 dL_reopen_14 (by decide) ?_
    exact eo_ret B hP1 hH.2.1 hS1 ho2 hc (by unfold rng; omega) hr hlocks ⟨Or.inl ⟨r, hq, rfl, rfl⟩, hG1, hY1, hE1⟩ dL_reopen_15
  · obtain ⟨hx, hG1, hY1, hE1⟩ := hx9
    intro H locs ls ce q hH hl hc hce hcv hcl
    have ho1 := ho.here hH.2.2 hna
    obtain rfl := hXE σ9 E9 hx
    refine vx_catch (own := RL) (name := "java/lang/IllegalStateException") (E := "java/lang/IllegalStateException") B.2.2.1 [] ⟨0, 8, 11, 21⟩ [] (htab.trans rfl) (fun z9 hz9 => nomatch hz9) rfl (by decide) (B.2.2.2.1 _ wlL_21) (cs_of B (by decide)) hce hcv hcl ?_
    refine W.eq (g2 := F0 m 11 ls [va_rf (some q)]) rfl ?_
    refine lv_astore_nQ (lv' := [(2, va_rf (some q)), (0, .ref th), (1, .ref o)]) B.1 B.2.1 dL_reopen_11 rfl hl (by decide) rfl (fun ls hl => ?_)
    refine lv_iconst (v := i32 1) B.1 B.2.1 dL_reopen_12 (by decide) ?_
    exact eo_ret B hH.1 hH.2.1 (So hH.2.2) ho1 hc (by unfold rng; omega) hr hlocks ⟨Or.inr ⟨"java/lang/IllegalStateException", hx, rfl, rfl⟩, hG1, hY1, hE1⟩ dL_reopen_13
def cd_visible (E : String) : Int := if E = "java/lang/IndexOutOfBoundsException" then 1 else 0
theorem dL_visible_0 : decode cL_visible 0 = .ok (.aload_n 2, 1) := by decide +kernel
theorem dL_visible_1 : decode cL_visible 1 = .ok (.iconst 0, 1) := by decide +kernel
theorem dL_visible_2 : decode cL_visible 2 = .ok (.aload_n 0, 1) := by decide +kernel
theorem dL_visible_3 : decode cL_visible 3 = .ok (.iload_n 1, 1) := by decide +kernel
theorem dL_visible_4 : decode cL_visible 4 = .ok (.invokevirtual 61, 3) := by decide +kernel
theorem dL_visible_7 : decode cL_visible 7 = .ok (.i2l, 1) := by decide +kernel
theorem dL_visible_8 : decode cL_visible 8 = .ok (.lastore, 1) := by decide +kernel
theorem dL_visible_9 : decode cL_visible 9 = .ok (.goto 6, 3) := by decide +kernel
theorem dL_visible_12 : decode cL_visible 12 = .ok (.astore_n 3, 1) := by decide +kernel
theorem dL_visible_13 : decode cL_visible 13 = .ok (.iconst 1, 1) := by decide +kernel
theorem dL_visible_14 : decode cL_visible 14 = .ok (.ireturn, 1) := by decide +kernel
theorem dL_visible_15 : decode cL_visible 15 = .ok (.iconst 0, 1) := by decide +kernel
theorem dL_visible_16 : decode cL_visible 16 = .ok (.ireturn, 1) := by decide +kernel
set_option maxRecDepth 20000 in
theorem okw_visible (hl0 : l.stackTraces = false) (hT : TyC cA tys) {Q : Sg → Int → Prop} {X : Sg → String → Prop} {th o : Nat} {v : Int64} {v1 : Int} (g1 : rng v1) (hth : kO σ th 12) (hG : RG σ) (hY : TY σ) (h : wp_X12_visible th v1 σ Q X) (hXE : ∀ σ' E, X σ' E → E = "java/lang/IndexOutOfBoundsException") : Okw l D cA tys A o v yL_visible (.codeWith yL_visible cL_visible 4 (some .int) [(0, 9, 12, 27)]) 8 132 [.ref th, .int (i32 v1), .ref o] σ (fun σ' k v' => ((∃ r : Int, Q σ' r ∧ k = 0 ∧ v' = Int64.ofInt r) ∨ (∃ E, X σ' E ∧ k = cd_visible E ∧ v' = v)) ∧ RG σ' ∧ TY σ' ∧ Ext σ σ') := by
  refine okw_of (by decide) (Nat.le_of_ble_eq_true rfl) ?_
  intro p e R s m args below meth c hRR B hr hlocks htab ho hna H locs ls hH hl hc
  have hl : lv_has ls 4 [(0, .ref th), (1, .int (i32 v1)), (2, .ref o)] := hl
  have hRm : Rm R (gc σ) (gs σ) := by rw [hRR]; exact ⟨rfl, rfl⟩
  refine lv_aload_n B.1 B.2.1 dL_visible_0 rfl (lv_at hl 2 rfl) ?_
  refine lv_iconst (v := i32 0) B.1 B.2.1 dL_visible_1 (by decide) ?_
  refine lv_aload_n B.1 B.2.1 dL_visible_2 rfl (lv_at hl 0 rfl) ?_
  refine lv_iload_n B.1 B.2.1 dL_visible_3 rfl (lv_at hl 1 rfl) ?_
  refine c_V B hH hl hc hRm (C := RX12) (T := TX12) (N := 9) (ci := 12) (As := [.int (i32 v1)]) (ok_X12_visible hl0 hT σ th v1 g1 hth hG hY h) wcL_61 1 hd_X12_visible ⟨by rw [hRR]; exact Nat.le_refl _, by rw [hRR]; exact Nat.le_refl _⟩ hth.1 hth.2 (by decide) rfl rfl (rest := [.int (i32 0), .ref o]) rfl (Nat.le_of_ble_eq_true rfl) dL_visible_4 (fun σ1 w9 hq => ?_) (fun σ9 E9 hx9 => ?_)
  · obtain ⟨r, rfl, gr, hq, hG1, hY1, hE1⟩ := hq
    intro H locs ls hH hl hc
    have ho1 := ho.here hH.2.2 hna
    refine W.eq (g2 := F0 m 7 ls [.int (i32 r), .int (i32 0), .ref o]) rfl ?_
    refine lv_i2l B.1 B.2.1 dL_visible_7 (i32_i64 gr) ?_
    refine o_last B hT hH ho1 hna dL_visible_8 (fun H1 locs1 hP1 hS1 ho2 => ?_)
    refine lv_goto (tgt := 15) B.1 B.2.1 dL_visible_9 (by decide) ?_
    refine lv_iconst (v := i32 0) B.1 B.2.1 dL_visible_15 (by decide) ?_
    exact eo_ret B hP1 hH.2.1 hS1 ho2 hc (by unfold rng; omega) hr hlocks ⟨Or.inl ⟨r, hq, rfl, rfl⟩, hG1, hY1, hE1⟩ dL_visible_16
  · obtain ⟨hx, hG1, hY1, hE1⟩ := hx9
    intro H locs ls ce q hH hl hc hce hcv hcl
    have ho1 := ho.here hH.2.2 hna
    obtain rfl := hXE σ9 E9 hx
    refine vx_catch (own := RL) (name := "java/lang/IndexOutOfBoundsException") (E := "java/lang/IndexOutOfBoundsException") B.2.2.1 [] ⟨0, 9, 12, 27⟩ [] (htab.trans rfl) (fun z9 hz9 => nomatch hz9) rfl (by decide) (B.2.2.2.1 _ wlL_27) (cs_of B (by decide)) hce hcv hcl ?_
    refine W.eq (g2 := F0 m 12 ls [va_rf (some q)]) rfl ?_
    refine lv_astore_nQ (lv' := [(3, va_rf (some q)), (0, .ref th), (1, .int (i32 v1)), (2, .ref o)]) B.1 B.2.1 dL_visible_12 rfl hl (by decide) rfl (fun ls hl => ?_)
    refine lv_iconst (v := i32 1) B.1 B.2.1 dL_visible_13 (by decide) ?_
    exact eo_ret B hH.1 hH.2.1 (So hH.2.2) ho1 hc (by unfold rng; omega) hr hlocks ⟨Or.inr ⟨"java/lang/IndexOutOfBoundsException", hx, rfl, rfl⟩, hG1, hY1, hE1⟩ dL_visible_14
def cd_row (E : String) : Int := if E = "java/lang/IndexOutOfBoundsException" then 1 else 0
theorem dL_row_0 : decode cL_row 0 = .ok (.aload 4, 2) := by decide +kernel
theorem dL_row_2 : decode cL_row 2 = .ok (.iconst 0, 1) := by decide +kernel
theorem dL_row_3 : decode cL_row 3 = .ok (.aload_n 0, 1) := by decide +kernel
theorem dL_row_4 : decode cL_row 4 = .ok (.iload_n 1, 1) := by decide +kernel
theorem dL_row_5 : decode cL_row 5 = .ok (.iload_n 2, 1) := by decide +kernel
theorem dL_row_6 : decode cL_row 6 = .ok (.iload_n 3, 1) := by decide +kernel
theorem dL_row_7 : decode cL_row 7 = .ok (.invokevirtual 64, 3) := by decide +kernel
theorem dL_row_10 : decode cL_row 10 = .ok (.lastore, 1) := by decide +kernel
theorem dL_row_11 : decode cL_row 11 = .ok (.goto 7, 3) := by decide +kernel
theorem dL_row_14 : decode cL_row 14 = .ok (.astore 5, 2) := by decide +kernel
theorem dL_row_16 : decode cL_row 16 = .ok (.iconst 1, 1) := by decide +kernel
theorem dL_row_17 : decode cL_row 17 = .ok (.ireturn, 1) := by decide +kernel
theorem dL_row_18 : decode cL_row 18 = .ok (.iconst 0, 1) := by decide +kernel
theorem dL_row_19 : decode cL_row 19 = .ok (.ireturn, 1) := by decide +kernel
set_option maxRecDepth 20000 in
theorem okw_row (hl0 : l.stackTraces = false) (hT : TyC cA tys) {Q : Sg → Int64 → Prop} {X : Sg → String → Prop} {th o : Nat} {v : Int64} {v1 : Int} {v2 : Int} {v3 : Int} (g1 : rng v1) (g2 : rng v2) (g3 : rng v3) (hth : kO σ th 12) (hG : RG σ) (hY : TY σ) (h : wp_X12_row th v1 v2 v3 σ Q X) (hXE : ∀ σ' E, X σ' E → E = "java/lang/IndexOutOfBoundsException") : Okw l D cA tys A o v yL_row (.codeWith yL_row cL_row 6 (some .int) [(0, 11, 14, 27)]) 9 158 [.ref th, .int (i32 v1), .int (i32 v2), .int (i32 v3), .ref o] σ (fun σ' k v' => ((∃ r : Int64, Q σ' r ∧ k = 0 ∧ v' = r) ∨ (∃ E, X σ' E ∧ k = cd_row E ∧ v' = v)) ∧ RG σ' ∧ TY σ' ∧ Ext σ σ') := by
  refine okw_of (by decide) (Nat.le_of_ble_eq_true rfl) ?_
  intro p e R s m args below meth c hRR B hr hlocks htab ho hna H locs ls hH hl hc
  have hl : lv_has ls 6 [(0, .ref th), (1, .int (i32 v1)), (2, .int (i32 v2)), (3, .int (i32 v3)), (4, .ref o)] := hl
  have hRm : Rm R (gc σ) (gs σ) := by rw [hRR]; exact ⟨rfl, rfl⟩
  refine lv_aload B.1 B.2.1 dL_row_0 (lv_at hl 4 rfl) ?_
  refine lv_iconst (v := i32 0) B.1 B.2.1 dL_row_2 (by decide) ?_
  refine lv_aload_n B.1 B.2.1 dL_row_3 rfl (lv_at hl 0 rfl) ?_
  refine lv_iload_n B.1 B.2.1 dL_row_4 rfl (lv_at hl 1 rfl) ?_
  refine lv_iload_n B.1 B.2.1 dL_row_5 rfl (lv_at hl 2 rfl) ?_
  refine lv_iload_n B.1 B.2.1 dL_row_6 rfl (lv_at hl 3 rfl) ?_
  refine c_V B hH hl hc hRm (C := RX12) (T := TX12) (N := 9) (ci := 12) (As := [.int (i32 v1), .int (i32 v2), .int (i32 v3)]) (ok_X12_row hl0 hT σ th v1 v2 v3 g1 g2 g3 hth hG hY h) wcL_64 3 hd_X12_row ⟨by rw [hRR]; exact Nat.le_refl _, by rw [hRR]; exact Nat.le_refl _⟩ hth.1 hth.2 (by decide) rfl rfl (rest := [.int (i32 0), .ref o]) rfl (Nat.le_of_ble_eq_true rfl) dL_row_7 (fun σ1 w9 hq => ?_) (fun σ9 E9 hx9 => ?_)
  · obtain ⟨r, rfl, hq, hG1, hY1, hE1⟩ := hq
    intro H locs ls hH hl hc
    have ho1 := ho.here hH.2.2 hna
    refine W.eq (g2 := F0 m 10 ls [.long r, .int (i32 0), .ref o]) rfl ?_
    refine o_last B hT hH ho1 hna dL_row_10 (fun H1 locs1 hP1 hS1 ho2 => ?_)
    refine lv_goto (tgt := 18) B.1 B.2.1 dL_row_11 (by decide) ?_
    refine lv_iconst (v := i32 0) B.1 B.2.1 dL_row_18 (by decide) ?_
    exact eo_ret B hP1 hH.2.1 hS1 ho2 hc (by unfold rng; omega) hr hlocks ⟨Or.inl ⟨r, hq, rfl, rfl⟩, hG1, hY1, hE1⟩ dL_row_19
  · obtain ⟨hx, hG1, hY1, hE1⟩ := hx9
    intro H locs ls ce q hH hl hc hce hcv hcl
    have ho1 := ho.here hH.2.2 hna
    obtain rfl := hXE σ9 E9 hx
    refine vx_catch (own := RL) (name := "java/lang/IndexOutOfBoundsException") (E := "java/lang/IndexOutOfBoundsException") B.2.2.1 [] ⟨0, 11, 14, 27⟩ [] (htab.trans rfl) (fun z9 hz9 => nomatch hz9) rfl (by decide) (B.2.2.2.1 _ wlL_27) (cs_of B (by decide)) hce hcv hcl ?_
    refine W.eq (g2 := F0 m 14 ls [va_rf (some q)]) rfl ?_
    refine lv_astoreQ (lv' := [(5, va_rf (some q)), (0, .ref th), (1, .int (i32 v1)), (2, .int (i32 v2)), (3, .int (i32 v3)), (4, .ref o)]) B.1 B.2.1 dL_row_14 hl (by decide) rfl (fun ls hl => ?_)
    refine lv_iconst (v := i32 1) B.1 B.2.1 dL_row_16 (by decide) ?_
    exact eo_ret B hH.1 hH.2.1 (So hH.2.2) ho1 hc (by unfold rng; omega) hr hlocks ⟨Or.inr ⟨"java/lang/IndexOutOfBoundsException", hx, rfl, rfl⟩, hG1, hY1, hE1⟩ dL_row_17
def cd_lineage (E : String) : Int := if E = "java/lang/IndexOutOfBoundsException" then 1 else 0
theorem dL_lineage_0 : decode cL_lineage 0 = .ok (.aload 4, 2) := by decide +kernel
theorem dL_lineage_2 : decode cL_lineage 2 = .ok (.iconst 0, 1) := by decide +kernel
theorem dL_lineage_3 : decode cL_lineage 3 = .ok (.aload_n 0, 1) := by decide +kernel
theorem dL_lineage_4 : decode cL_lineage 4 = .ok (.iload_n 1, 1) := by decide +kernel
theorem dL_lineage_5 : decode cL_lineage 5 = .ok (.iload_n 2, 1) := by decide +kernel
theorem dL_lineage_6 : decode cL_lineage 6 = .ok (.iload_n 3, 1) := by decide +kernel
theorem dL_lineage_7 : decode cL_lineage 7 = .ok (.invokevirtual 68, 3) := by decide +kernel
theorem dL_lineage_10 : decode cL_lineage 10 = .ok (.i2l, 1) := by decide +kernel
theorem dL_lineage_11 : decode cL_lineage 11 = .ok (.lastore, 1) := by decide +kernel
theorem dL_lineage_12 : decode cL_lineage 12 = .ok (.goto 7, 3) := by decide +kernel
theorem dL_lineage_15 : decode cL_lineage 15 = .ok (.astore 5, 2) := by decide +kernel
theorem dL_lineage_17 : decode cL_lineage 17 = .ok (.iconst 1, 1) := by decide +kernel
theorem dL_lineage_18 : decode cL_lineage 18 = .ok (.ireturn, 1) := by decide +kernel
theorem dL_lineage_19 : decode cL_lineage 19 = .ok (.iconst 0, 1) := by decide +kernel
theorem dL_lineage_20 : decode cL_lineage 20 = .ok (.ireturn, 1) := by decide +kernel
set_option maxRecDepth 20000 in
theorem okw_lineage (hl0 : l.stackTraces = false) (hT : TyC cA tys) {Q : Sg → Int → Prop} {X : Sg → String → Prop} {th o : Nat} {v : Int64} {v1 : Int} {v2 : Int} {v3 : Int} (g1 : rng v1) (g2 : rng v2) (g3 : rng v3) (hth : kO σ th 12) (hG : RG σ) (hY : TY σ) (h : wp_X12_lineage th v1 v2 v3 σ Q X) (hXE : ∀ σ' E, X σ' E → E = "java/lang/IndexOutOfBoundsException") : Okw l D cA tys A o v yL_lineage (.codeWith yL_lineage cL_lineage 6 (some .int) [(0, 12, 15, 27)]) 9 159 [.ref th, .int (i32 v1), .int (i32 v2), .int (i32 v3), .ref o] σ (fun σ' k v' => ((∃ r : Int, Q σ' r ∧ k = 0 ∧ v' = Int64.ofInt r) ∨ (∃ E, X σ' E ∧ k = cd_lineage E ∧ v' = v)) ∧ RG σ' ∧ TY σ' ∧ Ext σ σ') := by
  refine okw_of (by decide) (Nat.le_of_ble_eq_true rfl) ?_
  intro p e R s m args below meth c hRR B hr hlocks htab ho hna H locs ls hH hl hc
  have hl : lv_has ls 6 [(0, .ref th), (1, .int (i32 v1)), (2, .int (i32 v2)), (3, .int (i32 v3)), (4, .ref o)] := hl
  have hRm : Rm R (gc σ) (gs σ) := by rw [hRR]; exact ⟨rfl, rfl⟩
  refine lv_aload B.1 B.2.1 dL_lineage_0 (lv_at hl 4 rfl) ?_
  refine lv_iconst (v := i32 0) B.1 B.2.1 dL_lineage_2 (by decide) ?_
  refine lv_aload_n B.1 B.2.1 dL_lineage_3 rfl (lv_at hl 0 rfl) ?_
  refine lv_iload_n B.1 B.2.1 dL_lineage_4 rfl (lv_at hl 1 rfl) ?_
  refine lv_iload_n B.1 B.2.1 dL_lineage_5 rfl (lv_at hl 2 rfl) ?_
  refine lv_iload_n B.1 B.2.1 dL_lineage_6 rfl (lv_at hl 3 rfl) ?_
  refine c_V B hH hl hc hRm (C := RX12) (T := TX12) (N := 9) (ci := 12) (As := [.int (i32 v1), .int (i32 v2), .int (i32 v3)]) (ok_X12_lineage hl0 hT σ th v1 v2 v3 g1 g2 g3 hth hG hY h) wcL_68 3 hd_X12_lineage ⟨by rw [hRR]; exact Nat.le_refl _, by rw [hRR]; exact Nat.le_refl _⟩ hth.1 hth.2 (by decide) rfl rfl (rest := [.int (i32 0), .ref o]) rfl (Nat.le_of_ble_eq_true rfl) dL_lineage_7 (fun σ1 w9 hq => ?_) (fun σ9 E9 hx9 => ?_)
  · obtain ⟨r, rfl, gr, hq, hG1, hY1, hE1⟩ := hq
    intro H locs ls hH hl hc
    have ho1 := ho.here hH.2.2 hna
    refine W.eq (g2 := F0 m 10 ls [.int (i32 r), .int (i32 0), .ref o]) rfl ?_
    refine lv_i2l B.1 B.2.1 dL_lineage_10 (i32_i64 gr) ?_
    refine o_last B hT hH ho1 hna dL_lineage_11 (fun H1 locs1 hP1 hS1 ho2 => ?_)
    refine lv_goto (tgt := 19) B.1 B.2.1 dL_lineage_12 (by decide) ?_
    refine lv_iconst (v := i32 0) B.1 B.2.1 dL_lineage_19 (by decide) ?_
    exact eo_ret B hP1 hH.2.1 hS1 ho2 hc (by unfold rng; omega) hr hlocks ⟨Or.inl ⟨r, hq, rfl, rfl⟩, hG1, hY1, hE1⟩ dL_lineage_20
  · obtain ⟨hx, hG1, hY1, hE1⟩ := hx9
    intro H locs ls ce q hH hl hc hce hcv hcl
    have ho1 := ho.here hH.2.2 hna
    obtain rfl := hXE σ9 E9 hx
    refine vx_catch (own := RL) (name := "java/lang/IndexOutOfBoundsException") (E := "java/lang/IndexOutOfBoundsException") B.2.2.1 [] ⟨0, 12, 15, 27⟩ [] (htab.trans rfl) (fun z9 hz9 => nomatch hz9) rfl (by decide) (B.2.2.2.1 _ wlL_27) (cs_of B (by decide)) hce hcv hcl ?_
    refine W.eq (g2 := F0 m 15 ls [va_rf (some q)]) rfl ?_
    refine lv_astoreQ (lv' := [(5, va_rf (some q)), (0, .ref th), (1, .int (i32 v1)), (2, .int (i32 v2)), (3, .int (i32 v3)), (4, .ref o)]) B.1 B.2.1 dL_lineage_15 hl (by decide) rfl (fun ls hl => ?_)
    refine lv_iconst (v := i32 1) B.1 B.2.1 dL_lineage_17 (by decide) ?_
    exact eo_ret B hH.1 hH.2.1 (So hH.2.2) ho1 hc (by unfold rng; omega) hr hlocks ⟨Or.inr ⟨"java/lang/IndexOutOfBoundsException", hx, rfl, rfl⟩, hG1, hY1, hE1⟩ dL_lineage_18
def cd_onePass (E : String) : Int := if E = "java/lang/IllegalStateException" then 1 else 0
theorem dL_onePass_0 : decode cL_onePass 0 = .ok (.aload_n 1, 1) := by decide +kernel
theorem dL_onePass_1 : decode cL_onePass 1 = .ok (.iconst 0, 1) := by decide +kernel
theorem dL_onePass_2 : decode cL_onePass 2 = .ok (.aload_n 0, 1) := by decide +kernel
theorem dL_onePass_3 : decode cL_onePass 3 = .ok (.invokevirtual 72, 3) := by decide +kernel
theorem dL_onePass_6 : decode cL_onePass 6 = .ok (.ifCond .eq 7, 3) := by decide +kernel
theorem dL_onePass_9 : decode cL_onePass 9 = .ok (.lconst 1, 1) := by decide +kernel
theorem dL_onePass_10 : decode cL_onePass 10 = .ok (.goto 4, 3) := by decide +kernel
theorem dL_onePass_13 : decode cL_onePass 13 = .ok (.lconst 0, 1) := by decide +kernel
theorem dL_onePass_14 : decode cL_onePass 14 = .ok (.lastore, 1) := by decide +kernel
theorem dL_onePass_15 : decode cL_onePass 15 = .ok (.goto 6, 3) := by decide +kernel
theorem dL_onePass_18 : decode cL_onePass 18 = .ok (.astore_n 2, 1) := by decide +kernel
theorem dL_onePass_19 : decode cL_onePass 19 = .ok (.iconst 1, 1) := by decide +kernel
theorem dL_onePass_20 : decode cL_onePass 20 = .ok (.ireturn, 1) := by decide +kernel
theorem dL_onePass_21 : decode cL_onePass 21 = .ok (.iconst 0, 1) := by decide +kernel
theorem dL_onePass_22 : decode cL_onePass 22 = .ok (.ireturn, 1) := by decide +kernel
set_option maxRecDepth 20000 in
theorem okw_onePass (hl0 : l.stackTraces = false) (hT : TyC cA tys) {Q : Sg → Int → Prop} {X : Sg → String → Prop} {th o : Nat} {v : Int64} (hth : kO σ th 12) (hG : RG σ) (hY : TY σ) (h : wp_X12_onePass th σ Q X) (hXE : ∀ σ' E, X σ' E → E = "java/lang/IllegalStateException") : Okw l D cA tys A o v yL_onePass (.codeWith yL_onePass cL_onePass 3 (some .int) [(0, 15, 18, 21)]) 14 292 [.ref th, .ref o] σ (fun σ' k v' => ((∃ r : Int, Q σ' r ∧ k = 0 ∧ v' = Int64.ofInt r) ∨ (∃ E, X σ' E ∧ k = cd_onePass E ∧ v' = v)) ∧ RG σ' ∧ TY σ' ∧ Ext σ σ') := by
  refine okw_of (by decide) (Nat.le_of_ble_eq_true rfl) ?_
  intro p e R s m args below meth c hRR B hr hlocks htab ho hna H locs ls hH hl hc
  have hl : lv_has ls 3 [(0, .ref th), (1, .ref o)] := hl
  have hRm : Rm R (gc σ) (gs σ) := by rw [hRR]; exact ⟨rfl, rfl⟩
  refine lv_aload_n B.1 B.2.1 dL_onePass_0 rfl (lv_at hl 1 rfl) ?_
  refine lv_iconst (v := i32 0) B.1 B.2.1 dL_onePass_1 (by decide) ?_
  refine lv_aload_n B.1 B.2.1 dL_onePass_2 rfl (lv_at hl 0 rfl) ?_
  refine c_V B hH hl hc hRm (C := RX12) (T := TX12) (N := 9) (ci := 12) (As := []) (ok_X12_onePass hl0 hT σ th hth hG hY h) wcL_72 0 hd_X12_onePass ⟨by rw [hRR]; exact Nat.le_refl _, by rw [hRR]; exact Nat.le_refl _⟩ hth.1 hth.2 (by decide) rfl rfl (rest := [.int (i32 0), .ref o]) rfl (Nat.le_of_ble_eq_true rfl) dL_onePass_3 (fun σ1 w9 hq => ?_) (fun σ9 E9 hx9 => ?_)
  · obtain ⟨r, rfl, ⟨gr, gz⟩, hq, hG1, hY1, hE1⟩ := hq
    intro H locs ls hH hl hc
    have ho1 := ho.here hH.2.2 hna
    refine W.eq (g2 := F0 m 6 ls [.int (i32 r), .int (i32 0), .ref o]) rfl ?_
    refine lv_if_eq (tgt := 13) B.1 B.2.1 dL_onePass_6 (by decide) (fun h9 => ?_) (fun h9 => ?_)
    · have e9 : r = 0 := (z_eq gr).mp h9
      refine lv_lconst (v := 0) B.1 B.2.1 dL_onePass_13 (by decide) ?_
      refine o_last B hT hH ho1 hna dL_onePass_14 (fun H1 locs1 hP1 hS1 ho2 => ?_)
      refine lv_goto (tgt := 21) B.1 B.2.1 dL_onePass_15 (by decide) ?_
      refine lv_iconst (v := i32 0) B.1 B.2.1 dL_onePass_21 (by decide) ?_
      exact eo_ret B hP1 hH.2.1 hS1 ho2 hc (by unfold rng; omega) hr hlocks ⟨Or.inl ⟨r, hq, rfl, (by rw [e9]; rfl)⟩, hG1, hY1, hE1⟩ dL_onePass_22
    · have e9 : r = 1 := by rcases gz with e9 | e9; exact absurd ((z_eq gr).mpr e9) h9; exact e9
      refine lv_lconst (v := 1) B.1 B.2.1 dL_onePass_9 (by decide) ?_
      refine lv_goto (tgt := 14) B.1 B.2.1 dL_onePass_10 (by decide) ?_
      refine o_last B hT hH ho1 hna dL_onePass_14 (fun H1 locs1 hP1 hS1 ho2 => ?_)
      refine lv_goto (tgt := 21) B.1 B.2.1 dL_onePass_15 (by decide) ?_
      refine lv_iconst (v := i32 0) B.1 B.2.1 dL_onePass_21 (by decide) ?_
      exact eo_ret B hP1 hH.2.1 hS1 ho2 hc (by unfold rng; omega) hr hlocks ⟨Or.inl ⟨r, hq, rfl, (by rw [e9]; rfl)⟩, hG1, hY1, hE1⟩ dL_onePass_22
  · obtain ⟨hx, hG1, hY1, hE1⟩ := hx9
    intro H locs ls ce q hH hl hc hce hcv hcl
    have ho1 := ho.here hH.2.2 hna
    obtain rfl := hXE σ9 E9 hx
    refine vx_catch (own := RL) (name := "java/lang/IllegalStateException") (E := "java/lang/IllegalStateException") B.2.2.1 [] ⟨0, 15, 18, 21⟩ [] (htab.trans rfl) (fun z9 hz9 => nomatch hz9) rfl (by decide) (B.2.2.2.1 _ wlL_21) (cs_of B (by decide)) hce hcv hcl ?_
    refine W.eq (g2 := F0 m 18 ls [va_rf (some q)]) rfl ?_
    refine lv_astore_nQ (lv' := [(2, va_rf (some q)), (0, .ref th), (1, .ref o)]) B.1 B.2.1 dL_onePass_18 rfl hl (by decide) rfl (fun ls hl => ?_)
    refine lv_iconst (v := i32 1) B.1 B.2.1 dL_onePass_19 (by decide) ?_
    exact eo_ret B hH.1 hH.2.1 (So hH.2.2) ho1 hc (by unfold rng; omega) hr hlocks ⟨Or.inr ⟨"java/lang/IllegalStateException", hx, rfl, rfl⟩, hG1, hY1, hE1⟩ dL_onePass_20
def cd_task (E : String) : Int := if E = "java/lang/IndexOutOfBoundsException" then 1 else if E = "java/lang/IllegalStateException" then 2 else if E = "java/lang/IllegalArgumentException" then 3 else 0
theorem dL_task_0 : decode cL_task 0 = .ok (.aload_n 3, 1) := by decide +kernel
theorem dL_task_1 : decode cL_task 1 = .ok (.iconst 0, 1) := by decide +kernel
theorem dL_task_2 : decode cL_task 2 = .ok (.aload_n 0, 1) := by decide +kernel
theorem dL_task_3 : decode cL_task 3 = .ok (.iload_n 1, 1) := by decide +kernel
theorem dL_task_4 : decode cL_task 4 = .ok (.iload_n 2, 1) := by decide +kernel
theorem dL_task_5 : decode cL_task 5 = .ok (.invokevirtual 76, 3) := by decide +kernel
theorem dL_task_8 : decode cL_task 8 = .ok (.lastore, 1) := by decide +kernel
theorem dL_task_9 : decode cL_task 9 = .ok (.goto 15, 3) := by decide +kernel
theorem dL_task_12 : decode cL_task 12 = .ok (.astore 4, 2) := by decide +kernel
theorem dL_task_14 : decode cL_task 14 = .ok (.iconst 1, 1) := by decide +kernel
theorem dL_task_15 : decode cL_task 15 = .ok (.ireturn, 1) := by decide +kernel
theorem dL_task_16 : decode cL_task 16 = .ok (.astore 4, 2) := by decide +kernel
theorem dL_task_18 : decode cL_task 18 = .ok (.iconst 2, 1) := by decide +kernel
theorem dL_task_19 : decode cL_task 19 = .ok (.ireturn, 1) := by decide +kernel
theorem dL_task_20 : decode cL_task 20 = .ok (.astore 4, 2) := by decide +kernel
theorem dL_task_22 : decode cL_task 22 = .ok (.iconst 3, 1) := by decide +kernel
theorem dL_task_23 : decode cL_task 23 = .ok (.ireturn, 1) := by decide +kernel
theorem dL_task_24 : decode cL_task 24 = .ok (.iconst 0, 1) := by decide +kernel
theorem dL_task_25 : decode cL_task 25 = .ok (.ireturn, 1) := by decide +kernel
set_option maxRecDepth 20000 in
theorem okw_task (hl0 : l.stackTraces = false) (hT : TyC cA tys) {Q : Sg → Int64 → Prop} {X : Sg → String → Prop} {th o : Nat} {v : Int64} {v1 : Int} {v2 : Int} (g1 : rng v1) (g2 : rng v2) (hth : kO σ th 12) (hG : RG σ) (hY : TY σ) (h : wp_X12_task th v1 v2 σ Q X) (hXE : ∀ σ' E, X σ' E → E = "java/lang/IndexOutOfBoundsException" ∨ E = "java/lang/IllegalStateException" ∨ E = "java/lang/IllegalArgumentException") : Okw l D cA tys A o v yL_task (.codeWith yL_task cL_task 5 (some .int) [(0, 9, 12, 27), (0, 9, 16, 21), (0, 9, 20, 13)]) 8 132 [.ref th, .int (i32 v1), .int (i32 v2), .ref o] σ (fun σ' k v' => ((∃ r : Int64, Q σ' r ∧ k = 0 ∧ v' = r) ∨ (∃ E, X σ' E ∧ k = cd_task E ∧ v' = v)) ∧ RG σ' ∧ TY σ' ∧ Ext σ σ') := by
  refine okw_of (by decide) (Nat.le_of_ble_eq_true rfl) ?_
  intro p e R s m args below meth c hRR B hr hlocks htab ho hna H locs ls hH hl hc
  have hl : lv_has ls 5 [(0, .ref th), (1, .int (i32 v1)), (2, .int (i32 v2)), (3, .ref o)] := hl
  have hRm : Rm R (gc σ) (gs σ) := by rw [hRR]; exact ⟨rfl, rfl⟩
  refine lv_aload_n B.1 B.2.1 dL_task_0 rfl (lv_at hl 3 rfl) ?_
  refine lv_iconst (v := i32 0) B.1 B.2.1 dL_task_1 (by decide) ?_
  refine lv_aload_n B.1 B.2.1 dL_task_2 rfl (lv_at hl 0 rfl) ?_
  refine lv_iload_n B.1 B.2.1 dL_task_3 rfl (lv_at hl 1 rfl) ?_
  refine lv_iload_n B.1 B.2.1 dL_task_4 rfl (lv_at hl 2 rfl) ?_
  refine c_V B hH hl hc hRm (C := RX12) (T := TX12) (N := 9) (ci := 12) (As := [.int (i32 v1), .int (i32 v2)]) (ok_X12_task hl0 hT σ th v1 v2 g1 g2 hth hG hY h) wcL_76 2 hd_X12_task ⟨by rw [hRR]; exact Nat.le_refl _, by rw [hRR]; exact Nat.le_refl _⟩ hth.1 hth.2 (by decide) rfl rfl (rest := [.int (i32 0), .ref o]) rfl (Nat.le_of_ble_eq_true rfl) dL_task_5 (fun σ1 w9 hq => ?_) (fun σ9 E9 hx9 => ?_)
  · obtain ⟨r, rfl, hq, hG1, hY1, hE1⟩ := hq
    intro H locs ls hH hl hc
    have ho1 := ho.here hH.2.2 hna
    refine W.eq (g2 := F0 m 8 ls [.long r, .int (i32 0), .ref o]) rfl ?_
    refine o_last B hT hH ho1 hna dL_task_8 (fun H1 locs1 hP1 hS1 ho2 => ?_)
    refine lv_goto (tgt := 24) B.1 B.2.1 dL_task_9 (by decide) ?_
    refine lv_iconst (v := i32 0) B.1 B.2.1 dL_task_24 (by decide) ?_
    exact eo_ret B hP1 hH.2.1 hS1 ho2 hc (by unfold rng; omega) hr hlocks ⟨Or.inl ⟨r, hq, rfl, rfl⟩, hG1, hY1, hE1⟩ dL_task_25
  · obtain ⟨hx, hG1, hY1, hE1⟩ := hx9
    intro H locs ls ce q hH hl hc hce hcv hcl
    have ho1 := ho.here hH.2.2 hna
    rcases hXE σ9 E9 hx with rfl | rfl | rfl
    · refine vx_catch (own := RL) (name := "java/lang/IndexOutOfBoundsException") (E := "java/lang/IndexOutOfBoundsException") B.2.2.1 [] ⟨0, 9, 12, 27⟩ [⟨0, 9, 16, 21⟩, ⟨0, 9, 20, 13⟩] (htab.trans rfl) (fun z9 hz9 => nomatch hz9) rfl (by decide) (B.2.2.2.1 _ wlL_27) (cs_of B (by decide)) hce hcv hcl ?_
      refine W.eq (g2 := F0 m 12 ls [va_rf (some q)]) rfl ?_
      refine lv_astoreQ (lv' := [(4, va_rf (some q)), (0, .ref th), (1, .int (i32 v1)), (2, .int (i32 v2)), (3, .ref o)]) B.1 B.2.1 dL_task_12 hl (by decide) rfl (fun ls hl => ?_)
      refine lv_iconst (v := i32 1) B.1 B.2.1 dL_task_14 (by decide) ?_
      exact eo_ret B hH.1 hH.2.1 (So hH.2.2) ho1 hc (by unfold rng; omega) hr hlocks ⟨Or.inr ⟨"java/lang/IndexOutOfBoundsException", hx, rfl, rfl⟩, hG1, hY1, hE1⟩ dL_task_15
    · refine vx_catch (own := RL) (name := "java/lang/IllegalStateException") (E := "java/lang/IllegalStateException") B.2.2.1 [⟨0, 9, 12, 27⟩] ⟨0, 9, 16, 21⟩ [⟨0, 9, 20, 13⟩] (htab.trans rfl) ((List.forall_mem_cons.mpr ⟨Or.inr ⟨by decide, "java/lang/IndexOutOfBoundsException", B.2.2.2.1 _ wlL_27, nc_of B (by decide)⟩, (fun _ h => nomatch h)⟩)) rfl (by decide) (B.2.2.2.1 _ wlL_21) (cs_of B (by decide)) hce hcv hcl ?_
      refine W.eq (g2 := F0 m 16 ls [va_rf (some q)]) rfl ?_
      refine lv_astoreQ (lv' := [(4, va_rf (some q)), (0, .ref th), (1, .int (i32 v1)), (2, .int (i32 v2)), (3, .ref o)]) B.1 B.2.1 dL_task_16 hl (by decide) rfl (fun ls hl => ?_)
      refine lv_iconst (v := i32 2) B.1 B.2.1 dL_task_18 (by decide) ?_
      exact eo_ret B hH.1 hH.2.1 (So hH.2.2) ho1 hc (by unfold rng; omega) hr hlocks ⟨Or.inr ⟨"java/lang/IllegalStateException", hx, rfl, rfl⟩, hG1, hY1, hE1⟩ dL_task_19
    · refine vx_catch (own := RL) (name := "java/lang/IllegalArgumentException") (E := "java/lang/IllegalArgumentException") B.2.2.1 [⟨0, 9, 12, 27⟩, ⟨0, 9, 16, 21⟩] ⟨0, 9, 20, 13⟩ [] (htab.trans rfl) ((List.forall_mem_cons.mpr ⟨Or.inr ⟨by decide, "java/lang/IndexOutOfBoundsException", B.2.2.2.1 _ wlL_27, nc_of B (by decide)⟩, List.forall_mem_cons.mpr ⟨Or.inr ⟨by decide, "java/lang/IllegalStateException", B.2.2.2.1 _ wlL_21, nc_of B (by decide)⟩, (fun _ h => nomatch h)⟩⟩)) rfl (by decide) (B.2.2.2.1 _ wlL_13) (cs_of B (by decide)) hce hcv hcl ?_
      refine W.eq (g2 := F0 m 20 ls [va_rf (some q)]) rfl ?_
      refine lv_astoreQ (lv' := [(4, va_rf (some q)), (0, .ref th), (1, .int (i32 v1)), (2, .int (i32 v2)), (3, .ref o)]) B.1 B.2.1 dL_task_20 hl (by decide) rfl (fun ls hl => ?_)
      refine lv_iconst (v := i32 3) B.1 B.2.1 dL_task_22 (by decide) ?_
      exact eo_ret B hH.1 hH.2.1 (So hH.2.2) ho1 hc (by unfold rng; omega) hr hlocks ⟨Or.inr ⟨"java/lang/IllegalArgumentException", hx, rfl, rfl⟩, hG1, hY1, hE1⟩ dL_task_23
def cd_channel (E : String) : Int := if E = "java/lang/IndexOutOfBoundsException" then 1 else if E = "java/lang/IllegalStateException" then 2 else if E = "java/lang/IllegalArgumentException" then 3 else 0
theorem dL_channel_0 : decode cL_channel 0 = .ok (.aload_n 3, 1) := by decide +kernel
theorem dL_channel_1 : decode cL_channel 1 = .ok (.iconst 0, 1) := by decide +kernel
theorem dL_channel_2 : decode cL_channel 2 = .ok (.aload_n 0, 1) := by decide +kernel
theorem dL_channel_3 : decode cL_channel 3 = .ok (.iload_n 1, 1) := by decide +kernel
theorem dL_channel_4 : decode cL_channel 4 = .ok (.iload_n 2, 1) := by decide +kernel
theorem dL_channel_5 : decode cL_channel 5 = .ok (.invokevirtual 79, 3) := by decide +kernel
theorem dL_channel_8 : decode cL_channel 8 = .ok (.lastore, 1) := by decide +kernel
theorem dL_channel_9 : decode cL_channel 9 = .ok (.goto 15, 3) := by decide +kernel
theorem dL_channel_12 : decode cL_channel 12 = .ok (.astore 4, 2) := by decide +kernel
theorem dL_channel_14 : decode cL_channel 14 = .ok (.iconst 1, 1) := by decide +kernel
theorem dL_channel_15 : decode cL_channel 15 = .ok (.ireturn, 1) := by decide +kernel
theorem dL_channel_16 : decode cL_channel 16 = .ok (.astore 4, 2) := by decide +kernel
theorem dL_channel_18 : decode cL_channel 18 = .ok (.iconst 2, 1) := by decide +kernel
theorem dL_channel_19 : decode cL_channel 19 = .ok (.ireturn, 1) := by decide +kernel
theorem dL_channel_20 : decode cL_channel 20 = .ok (.astore 4, 2) := by decide +kernel
theorem dL_channel_22 : decode cL_channel 22 = .ok (.iconst 3, 1) := by decide +kernel
theorem dL_channel_23 : decode cL_channel 23 = .ok (.ireturn, 1) := by decide +kernel
theorem dL_channel_24 : decode cL_channel 24 = .ok (.iconst 0, 1) := by decide +kernel
theorem dL_channel_25 : decode cL_channel 25 = .ok (.ireturn, 1) := by decide +kernel
set_option maxRecDepth 20000 in
theorem okw_channel (hl0 : l.stackTraces = false) (hT : TyC cA tys) {Q : Sg → Int64 → Prop} {X : Sg → String → Prop} {th o : Nat} {v : Int64} {v1 : Int} {v2 : Int} (g1 : rng v1) (g2 : rng v2) (hth : kO σ th 12) (hG : RG σ) (hY : TY σ) (h : wp_X12_channel th v1 v2 σ Q X) (hXE : ∀ σ' E, X σ' E → E = "java/lang/IndexOutOfBoundsException" ∨ E = "java/lang/IllegalStateException" ∨ E = "java/lang/IllegalArgumentException") : Okw l D cA tys A o v yL_channel (.codeWith yL_channel cL_channel 5 (some .int) [(0, 9, 12, 27), (0, 9, 16, 21), (0, 9, 20, 13)]) 8 132 [.ref th, .int (i32 v1), .int (i32 v2), .ref o] σ (fun σ' k v' => ((∃ r : Int64, Q σ' r ∧ k = 0 ∧ v' = r) ∨ (∃ E, X σ' E ∧ k = cd_channel E ∧ v' = v)) ∧ RG σ' ∧ TY σ' ∧ Ext σ σ') := by
  refine okw_of (by decide) (Nat.le_of_ble_eq_true rfl) ?_
  intro p e R s m args below meth c hRR B hr hlocks htab ho hna H locs ls hH hl hc
  have hl : lv_has ls 5 [(0, .ref th), (1, .int (i32 v1)), (2, .int (i32 v2)), (3, .ref o)] := hl
  have hRm : Rm R (gc σ) (gs σ) := by rw [hRR]; exact ⟨rfl, rfl⟩
  refine lv_aload_n B.1 B.2.1 dL_channel_0 rfl (lv_at hl 3 rfl) ?_
  refine lv_iconst (v := i32 0) B.1 B.2.1 dL_channel_1 (by decide) ?_
  refine lv_aload_n B.1 B.2.1 dL_channel_2 rfl (lv_at hl 0 rfl) ?_
  refine lv_iload_n B.1 B.2.1 dL_channel_3 rfl (lv_at hl 1 rfl) ?_
  refine lv_iload_n B.1 B.2.1 dL_channel_4 rfl (lv_at hl 2 rfl) ?_
  refine c_V B hH hl hc hRm (C := RX12) (T := TX12) (N := 9) (ci := 12) (As := [.int (i32 v1), .int (i32 v2)]) (ok_X12_channel hl0 hT σ th v1 v2 g1 g2 hth hG hY h) wcL_79 2 hd_X12_channel ⟨by rw [hRR]; exact Nat.le_refl _, by rw [hRR]; exact Nat.le_refl _⟩ hth.1 hth.2 (by decide) rfl rfl (rest := [.int (i32 0), .ref o]) rfl (Nat.le_of_ble_eq_true rfl) dL_channel_5 (fun σ1 w9 hq => ?_) (fun σ9 E9 hx9 => ?_)
  · obtain ⟨r, rfl, hq, hG1, hY1, hE1⟩ := hq
    intro H locs ls hH hl hc
    have ho1 := ho.here hH.2.2 hna
    refine W.eq (g2 := F0 m 8 ls [.long r, .int (i32 0), .ref o]) rfl ?_
    refine o_last B hT hH ho1 hna dL_channel_8 (fun H1 locs1 hP1 hS1 ho2 => ?_)
    refine lv_goto (tgt := 24) B.1 B.2.1 dL_channel_9 (by decide) ?_
    refine lv_iconst (v := i32 0) B.1 B.2.1 dL_channel_24 (by decide) ?_
    exact eo_ret B hP1 hH.2.1 hS1 ho2 hc (by unfold rng; omega) hr hlocks ⟨Or.inl ⟨r, hq, rfl, rfl⟩, hG1, hY1, hE1⟩ dL_channel_25
  · obtain ⟨hx, hG1, hY1, hE1⟩ := hx9
    intro H locs ls ce q hH hl hc hce hcv hcl
    have ho1 := ho.here hH.2.2 hna
    rcases hXE σ9 E9 hx with rfl | rfl | rfl
    · refine vx_catch (own := RL) (name := "java/lang/IndexOutOfBoundsException") (E := "java/lang/IndexOutOfBoundsException") B.2.2.1 [] ⟨0, 9, 12, 27⟩ [⟨0, 9, 16, 21⟩, ⟨0, 9, 20, 13⟩] (htab.trans rfl) (fun z9 hz9 => nomatch hz9) rfl (by decide) (B.2.2.2.1 _ wlL_27) (cs_of B (by decide)) hce hcv hcl ?_
      refine W.eq (g2 := F0 m 12 ls [va_rf (some q)]) rfl ?_
      refine lv_astoreQ (lv' := [(4, va_rf (some q)), (0, .ref th), (1, .int (i32 v1)), (2, .int (i32 v2)), (3, .ref o)]) B.1 B.2.1 dL_channel_12 hl (by decide) rfl (fun ls hl => ?_)
      refine lv_iconst (v := i32 1) B.1 B.2.1 dL_channel_14 (by decide) ?_
      exact eo_ret B hH.1 hH.2.1 (So hH.2.2) ho1 hc (by unfold rng; omega) hr hlocks ⟨Or.inr ⟨"java/lang/IndexOutOfBoundsException", hx, rfl, rfl⟩, hG1, hY1, hE1⟩ dL_channel_15
    · refine vx_catch (own := RL) (name := "java/lang/IllegalStateException") (E := "java/lang/IllegalStateException") B.2.2.1 [⟨0, 9, 12, 27⟩] ⟨0, 9, 16, 21⟩ [⟨0, 9, 20, 13⟩] (htab.trans rfl) ((List.forall_mem_cons.mpr ⟨Or.inr ⟨by decide, "java/lang/IndexOutOfBoundsException", B.2.2.2.1 _ wlL_27, nc_of B (by decide)⟩, (fun _ h => nomatch h)⟩)) rfl (by decide) (B.2.2.2.1 _ wlL_21) (cs_of B (by decide)) hce hcv hcl ?_
      refine W.eq (g2 := F0 m 16 ls [va_rf (some q)]) rfl ?_
      refine lv_astoreQ (lv' := [(4, va_rf (some q)), (0, .ref th), (1, .int (i32 v1)), (2, .int (i32 v2)), (3, .ref o)]) B.1 B.2.1 dL_channel_16 hl (by decide) rfl (fun ls hl => ?_)
      refine lv_iconst (v := i32 2) B.1 B.2.1 dL_channel_18 (by decide) ?_
      exact eo_ret B hH.1 hH.2.1 (So hH.2.2) ho1 hc (by unfold rng; omega) hr hlocks ⟨Or.inr ⟨"java/lang/IllegalStateException", hx, rfl, rfl⟩, hG1, hY1, hE1⟩ dL_channel_19
    · refine vx_catch (own := RL) (name := "java/lang/IllegalArgumentException") (E := "java/lang/IllegalArgumentException") B.2.2.1 [⟨0, 9, 12, 27⟩, ⟨0, 9, 16, 21⟩] ⟨0, 9, 20, 13⟩ [] (htab.trans rfl) ((List.forall_mem_cons.mpr ⟨Or.inr ⟨by decide, "java/lang/IndexOutOfBoundsException", B.2.2.2.1 _ wlL_27, nc_of B (by decide)⟩, List.forall_mem_cons.mpr ⟨Or.inr ⟨by decide, "java/lang/IllegalStateException", B.2.2.2.1 _ wlL_21, nc_of B (by decide)⟩, (fun _ h => nomatch h)⟩⟩)) rfl (by decide) (B.2.2.2.1 _ wlL_13) (cs_of B (by decide)) hce hcv hcl ?_
      refine W.eq (g2 := F0 m 20 ls [va_rf (some q)]) rfl ?_
      refine lv_astoreQ (lv' := [(4, va_rf (some q)), (0, .ref th), (1, .int (i32 v1)), (2, .int (i32 v2)), (3, .ref o)]) B.1 B.2.1 dL_channel_20 hl (by decide) rfl (fun ls hl => ?_)
      refine lv_iconst (v := i32 3) B.1 B.2.1 dL_channel_22 (by decide) ?_
      exact eo_ret B hH.1 hH.2.1 (So hH.2.2) ho1 hc (by unfold rng; omega) hr hlocks ⟨Or.inr ⟨"java/lang/IllegalArgumentException", hx, rfl, rfl⟩, hG1, hY1, hE1⟩ dL_channel_23
def cd_records (E : String) : Int := if E = "java/lang/IndexOutOfBoundsException" then 1 else if E = "java/lang/IllegalStateException" then 2 else if E = "java/lang/IllegalArgumentException" then 3 else 0
theorem dL_records_0 : decode cL_records 0 = .ok (.aload 4, 2) := by decide +kernel
theorem dL_records_2 : decode cL_records 2 = .ok (.iconst 0, 1) := by decide +kernel
theorem dL_records_3 : decode cL_records 3 = .ok (.aload_n 0, 1) := by decide +kernel
theorem dL_records_4 : decode cL_records 4 = .ok (.iload_n 1, 1) := by decide +kernel
theorem dL_records_5 : decode cL_records 5 = .ok (.lload_n 2, 1) := by decide +kernel
theorem dL_records_6 : decode cL_records 6 = .ok (.invokevirtual 82, 3) := by decide +kernel
theorem dL_records_9 : decode cL_records 9 = .ok (.i2l, 1) := by decide +kernel
theorem dL_records_10 : decode cL_records 10 = .ok (.lastore, 1) := by decide +kernel
theorem dL_records_11 : decode cL_records 11 = .ok (.goto 15, 3) := by decide +kernel
theorem dL_records_14 : decode cL_records 14 = .ok (.astore 5, 2) := by decide +kernel
theorem dL_records_16 : decode cL_records 16 = .ok (.iconst 1, 1) := by decide +kernel
theorem dL_records_17 : decode cL_records 17 = .ok (.ireturn, 1) := by decide +kernel
theorem dL_records_18 : decode cL_records 18 = .ok (.astore 5, 2) := by decide +kernel
theorem dL_records_20 : decode cL_records 20 = .ok (.iconst 2, 1) := by decide +kernel
theorem dL_records_21 : decode cL_records 21 = .ok (.ireturn, 1) := by decide +kernel
theorem dL_records_22 : decode cL_records 22 = .ok (.astore 5, 2) := by decide +kernel
theorem dL_records_24 : decode cL_records 24 = .ok (.iconst 3, 1) := by decide +kernel
theorem dL_records_25 : decode cL_records 25 = .ok (.ireturn, 1) := by decide +kernel
theorem dL_records_26 : decode cL_records 26 = .ok (.iconst 0, 1) := by decide +kernel
theorem dL_records_27 : decode cL_records 27 = .ok (.ireturn, 1) := by decide +kernel
set_option maxRecDepth 20000 in
theorem okw_records (hl0 : l.stackTraces = false) (hT : TyC cA tys) {Q : Sg → Int → Prop} {X : Sg → String → Prop} {th o : Nat} {v : Int64} {v1 : Int} {v2 : Int64} (g1 : rng v1) (hth : kO σ th 12) (hG : RG σ) (hY : TY σ) (h : wp_X12_records th v1 v2 σ Q X) (hXE : ∀ σ' E, X σ' E → E = "java/lang/IndexOutOfBoundsException" ∨ E = "java/lang/IllegalStateException" ∨ E = "java/lang/IllegalArgumentException") : Okw l D cA tys A o v yL_records (.codeWith yL_records cL_records 6 (some .int) [(0, 11, 14, 27), (0, 11, 18, 21), (0, 11, 22, 13)]) 8 133 [.ref th, .int (i32 v1), .long v2, .ref o] σ (fun σ' k v' => ((∃ r : Int, Q σ' r ∧ k = 0 ∧ v' = Int64.ofInt r) ∨ (∃ E, X σ' E ∧ k = cd_records E ∧ v' = v)) ∧ RG σ' ∧ TY σ' ∧ Ext σ σ') := by
  refine okw_of (by decide) (Nat.le_of_ble_eq_true rfl) ?_
  intro p e R s m args below meth c hRR B hr hlocks htab ho hna H locs ls hH hl hc
  have hl : lv_has ls 6 [(0, .ref th), (1, .int (i32 v1)), (2, .long v2), (4, .ref o)] := hl
  have hRm : Rm R (gc σ) (gs σ) := by rw [hRR]; exact ⟨rfl, rfl⟩
  refine lv_aload B.1 B.2.1 dL_records_0 (lv_at hl 3 rfl) ?_
  refine lv_iconst (v := i32 0) B.1 B.2.1 dL_records_2 (by decide) ?_
  refine lv_aload_n B.1 B.2.1 dL_records_3 rfl (lv_at hl 0 rfl) ?_
  refine lv_iload_n B.1 B.2.1 dL_records_4 rfl (lv_at hl 1 rfl) ?_
  refine lv_lload_n B.1 B.2.1 dL_records_5 rfl (lv_at hl 2 rfl) ?_
  refine c_V B hH hl hc hRm (C := RX12) (T := TX12) (N := 9) (ci := 12) (As := [.int (i32 v1), .long v2]) (ok_X12_records hl0 hT σ th v1 v2 g1 hth hG hY h) wcL_82 2 hd_X12_records ⟨by rw [hRR]; exact Nat.le_refl _, by rw [hRR]; exact Nat.le_refl _⟩ hth.1 hth.2 (by decide) rfl rfl (rest := [.int (i32 0), .ref o]) rfl (Nat.le_of_ble_eq_true rfl) dL_records_6 (fun σ1 w9 hq => ?_) (fun σ9 E9 hx9 => ?_)
  · obtain ⟨r, rfl, gr, hq, hG1, hY1, hE1⟩ := hq
    intro H locs ls hH hl hc
    have ho1 := ho.here hH.2.2 hna
    refine W.eq (g2 := F0 m 9 ls [.int (i32 r), .int (i32 0), .ref o]) rfl ?_
    refine lv_i2l B.1 B.2.1 dL_records_9 (i32_i64 gr) ?_
    refine o_last B hT hH ho1 hna dL_records_10 (fun H1 locs1 hP1 hS1 ho2 => ?_)
    refine lv_goto (tgt := 26) B.1 B.2.1 dL_records_11 (by decide) ?_
    refine lv_iconst (v := i32 0) B.1 B.2.1 dL_records_26 (by decide) ?_
    exact eo_ret B hP1 hH.2.1 hS1 ho2 hc (by unfold rng; omega) hr hlocks ⟨Or.inl ⟨r, hq, rfl, rfl⟩, hG1, hY1, hE1⟩ dL_records_27
  · obtain ⟨hx, hG1, hY1, hE1⟩ := hx9
    intro H locs ls ce q hH hl hc hce hcv hcl
    have ho1 := ho.here hH.2.2 hna
    rcases hXE σ9 E9 hx with rfl | rfl | rfl
    · refine vx_catch (own := RL) (name := "java/lang/IndexOutOfBoundsException") (E := "java/lang/IndexOutOfBoundsException") B.2.2.1 [] ⟨0, 11, 14, 27⟩ [⟨0, 11, 18, 21⟩, ⟨0, 11, 22, 13⟩] (htab.trans rfl) (fun z9 hz9 => nomatch hz9) rfl (by decide) (B.2.2.2.1 _ wlL_27) (cs_of B (by decide)) hce hcv hcl ?_
      refine W.eq (g2 := F0 m 14 ls [va_rf (some q)]) rfl ?_
      refine lv_astoreQ (lv' := [(5, va_rf (some q)), (0, .ref th), (1, .int (i32 v1)), (2, .long v2), (4, .ref o)]) B.1 B.2.1 dL_records_14 hl (by decide) rfl (fun ls hl => ?_)
      refine lv_iconst (v := i32 1) B.1 B.2.1 dL_records_16 (by decide) ?_
      exact eo_ret B hH.1 hH.2.1 (So hH.2.2) ho1 hc (by unfold rng; omega) hr hlocks ⟨Or.inr ⟨"java/lang/IndexOutOfBoundsException", hx, rfl, rfl⟩, hG1, hY1, hE1⟩ dL_records_17
    · refine vx_catch (own := RL) (name := "java/lang/IllegalStateException") (E := "java/lang/IllegalStateException") B.2.2.1 [⟨0, 11, 14, 27⟩] ⟨0, 11, 18, 21⟩ [⟨0, 11, 22, 13⟩] (htab.trans rfl) ((List.forall_mem_cons.mpr ⟨Or.inr ⟨by decide, "java/lang/IndexOutOfBoundsException", B.2.2.2.1 _ wlL_27, nc_of B (by decide)⟩, (fun _ h => nomatch h)⟩)) rfl (by decide) (B.2.2.2.1 _ wlL_21) (cs_of B (by decide)) hce hcv hcl ?_
      refine W.eq (g2 := F0 m 18 ls [va_rf (some q)]) rfl ?_
      refine lv_astoreQ (lv' := [(5, va_rf (some q)), (0, .ref th), (1, .int (i32 v1)), (2, .long v2), (4, .ref o)]) B.1 B.2.1 dL_records_18 hl (by decide) rfl (fun ls hl => ?_)
      refine lv_iconst (v := i32 2) B.1 B.2.1 dL_records_20 (by decide) ?_
      exact eo_ret B hH.1 hH.2.1 (So hH.2.2) ho1 hc (by unfold rng; omega) hr hlocks ⟨Or.inr ⟨"java/lang/IllegalStateException", hx, rfl, rfl⟩, hG1, hY1, hE1⟩ dL_records_21
    · refine vx_catch (own := RL) (name := "java/lang/IllegalArgumentException") (E := "java/lang/IllegalArgumentException") B.2.2.1 [⟨0, 11, 14, 27⟩, ⟨0, 11, 18, 21⟩] ⟨0, 11, 22, 13⟩ [] (htab.trans rfl) ((List.forall_mem_cons.mpr ⟨Or.inr ⟨by decide, "java/lang/IndexOutOfBoundsException", B.2.2.2.1 _ wlL_27, nc_of B (by decide)⟩, List.forall_mem_cons.mpr ⟨Or.inr ⟨by decide, "java/lang/IllegalStateException", B.2.2.2.1 _ wlL_21, nc_of B (by decide)⟩, (fun _ h => nomatch h)⟩⟩)) rfl (by decide) (B.2.2.2.1 _ wlL_13) (cs_of B (by decide)) hce hcv hcl ?_
      refine W.eq (g2 := F0 m 22 ls [va_rf (some q)]) rfl ?_
      refine lv_astoreQ (lv' := [(5, va_rf (some q)), (0, .ref th), (1, .int (i32 v1)), (2, .long v2), (4, .ref o)]) B.1 B.2.1 dL_records_22 hl (by decide) rfl (fun ls hl => ?_)
      refine lv_iconst (v := i32 3) B.1 B.2.1 dL_records_24 (by decide) ?_
      exact eo_ret B hH.1 hH.2.1 (So hH.2.2) ho1 hc (by unfold rng; omega) hr hlocks ⟨Or.inr ⟨"java/lang/IllegalArgumentException", hx, rfl, rfl⟩, hG1, hY1, hE1⟩ dL_records_25
end LWR
