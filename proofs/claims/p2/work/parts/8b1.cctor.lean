theorem hd_X11_init : yX11_init.cls ≠ "java/lang/invoke/MethodHandle" ∧ yX11_init.cls ≠ "java/lang/invoke/VarHandle" ∧ (parseMethodDescriptor yX11_init.desc).map (fun d => d.parameters.length) = some 2 := by decide +kernel
theorem hd_X12_newChains : yX12_newChains.cls ≠ "java/lang/invoke/MethodHandle" ∧ yX12_newChains.cls ≠ "java/lang/invoke/VarHandle" ∧ (parseMethodDescriptor yX12_newChains.desc).map (fun d => d.parameters.length) = some 1 := by decide +kernel
theorem hd_X3_init : yX3_init.cls ≠ "java/lang/invoke/MethodHandle" ∧ yX3_init.cls ≠ "java/lang/invoke/VarHandle" ∧ (parseMethodDescriptor yX3_init.desc).map (fun d => d.parameters.length) = some 0 := by decide +kernel
theorem hd_X4_init : yX4_init.cls ≠ "java/lang/invoke/MethodHandle" ∧ yX4_init.cls ≠ "java/lang/invoke/VarHandle" ∧ (parseMethodDescriptor yX4_init.desc).map (fun d => d.parameters.length) = some 0 := by decide +kernel
theorem hd_X5_init : yX5_init.cls ≠ "java/lang/invoke/MethodHandle" ∧ yX5_init.cls ≠ "java/lang/invoke/VarHandle" ∧ (parseMethodDescriptor yX5_init.desc).map (fun d => d.parameters.length) = some 0 := by decide +kernel
theorem hd_X6_init : yX6_init.cls ≠ "java/lang/invoke/MethodHandle" ∧ yX6_init.cls ≠ "java/lang/invoke/VarHandle" ∧ (parseMethodDescriptor yX6_init.desc).map (fun d => d.parameters.length) = some 0 := by decide +kernel
theorem hd_X7_init : yX7_init.cls ≠ "java/lang/invoke/MethodHandle" ∧ yX7_init.cls ≠ "java/lang/invoke/VarHandle" ∧ (parseMethodDescriptor yX7_init.desc).map (fun d => d.parameters.length) = some 1 := by decide +kernel
theorem hd_X8_init : yX8_init.cls ≠ "java/lang/invoke/MethodHandle" ∧ yX8_init.cls ≠ "java/lang/invoke/VarHandle" ∧ (parseMethodDescriptor yX8_init.desc).map (fun d => d.parameters.length) = some 0 := by decide +kernel
theorem hd_X9_init : yX9_init.cls ≠ "java/lang/invoke/MethodHandle" ∧ yX9_init.cls ≠ "java/lang/invoke/VarHandle" ∧ (parseMethodDescriptor yX9_init.desc).map (fun d => d.parameters.length) = some 1 := by decide +kernel
theorem wn_X11_9 : ∀ w ∈ [Cond.classLink RX11 9 RX1, .instantiable RX1 3, .initialized RX1], w ∈ WAL := List.forall_mem_cons.mpr ⟨List.mem_filter.mpr ⟨tb_2 _ (List.mem_of_getElem? (i := 146) rfl), rfl⟩, List.forall_mem_cons.mpr ⟨List.mem_filter.mpr ⟨tb_2 _ (List.mem_of_getElem? (i := 113) rfl), rfl⟩, List.forall_mem_cons.mpr ⟨List.mem_filter.mpr ⟨tb_1 _ (List.mem_of_getElem? (i := 10) rfl), rfl⟩, (fun _ h => nomatch h)⟩⟩⟩
theorem wn_X12_20 : ∀ w ∈ [Cond.classLink RX12 20 RX6, .instantiable RX6 9, .initialized RX6], w ∈ WAL := List.forall_mem_cons.mpr ⟨List.mem_filter.mpr ⟨tb_1 _ (List.mem_of_getElem? (i := 42) rfl), rfl⟩, List.forall_mem_cons.mpr ⟨List.mem_filter.mpr ⟨tb_1 _ (List.mem_of_getElem? (i := 43) rfl), rfl⟩, List.forall_mem_cons.mpr ⟨List.mem_filter.mpr ⟨tb_1 _ (List.mem_of_getElem? (i := 2) rfl), rfl⟩, (fun _ h => nomatch h)⟩⟩⟩
theorem wn_X12_27 : ∀ w ∈ [Cond.classLink RX12 27 RX4, .instantiable RX4 14, .initialized RX4], w ∈ WAL := List.forall_mem_cons.mpr ⟨List.mem_filter.mpr ⟨tb_1 _ (List.mem_of_getElem? (i := 78) rfl), rfl⟩, List.forall_mem_cons.mpr ⟨List.mem_filter.mpr ⟨tb_1 _ (List.mem_of_getElem? (i := 79) rfl), rfl⟩, List.forall_mem_cons.mpr ⟨List.mem_filter.mpr ⟨tb_1 _ (List.mem_of_getElem? (i := 3) rfl), rfl⟩, (fun _ h => nomatch h)⟩⟩⟩
theorem wn_X12_37 : ∀ w ∈ [Cond.classLink RX12 37 RX8, .instantiable RX8 3, .initialized RX8], w ∈ WAL := List.forall_mem_cons.mpr ⟨List.mem_filter.mpr ⟨tb_2 _ (List.mem_of_getElem? (i := 30) rfl), rfl⟩, List.forall_mem_cons.mpr ⟨List.mem_filter.mpr ⟨tb_2 _ (List.mem_of_getElem? (i := 31) rfl), rfl⟩, List.forall_mem_cons.mpr ⟨List.mem_filter.mpr ⟨tb_1 _ (List.mem_of_getElem? (i := 6) rfl), rfl⟩, (fun _ h => nomatch h)⟩⟩⟩
theorem wn_X12_44 : ∀ w ∈ [Cond.classLink RX12 44 RX9, .instantiable RX9 20, .initialized RX9], w ∈ WAL := List.forall_mem_cons.mpr ⟨List.mem_filter.mpr ⟨tb_2 _ (List.mem_of_getElem? (i := 48) rfl), rfl⟩, List.forall_mem_cons.mpr ⟨List.mem_filter.mpr ⟨tb_2 _ (List.mem_of_getElem? (i := 49) rfl), rfl⟩, List.forall_mem_cons.mpr ⟨List.mem_filter.mpr ⟨tb_1 _ (List.mem_of_getElem? (i := 7) rfl), rfl⟩, (fun _ h => nomatch h)⟩⟩⟩
theorem wn_X12_53 : ∀ w ∈ [Cond.classLink RX12 53 RX7, .instantiable RX7 7, .initialized RX7], w ∈ WAL := List.forall_mem_cons.mpr ⟨List.mem_filter.mpr ⟨tb_3 _ (List.mem_of_getElem? (i := 2) rfl), rfl⟩, List.forall_mem_cons.mpr ⟨List.mem_filter.mpr ⟨tb_3 _ (List.mem_of_getElem? (i := 3) rfl), rfl⟩, List.forall_mem_cons.mpr ⟨List.mem_filter.mpr ⟨tb_1 _ (List.mem_of_getElem? (i := 12) rfl), rfl⟩, (fun _ h => nomatch h)⟩⟩⟩
theorem wn_X12_180 : ∀ w ∈ [Cond.classLink RX12 180 RX1, .instantiable RX1 3, .initialized RX1], w ∈ WAL := List.forall_mem_cons.mpr ⟨List.mem_filter.mpr ⟨tb_2 _ (List.mem_of_getElem? (i := 111) rfl), rfl⟩, List.forall_mem_cons.mpr ⟨List.mem_filter.mpr ⟨tb_2 _ (List.mem_of_getElem? (i := 113) rfl), rfl⟩, List.forall_mem_cons.mpr ⟨List.mem_filter.mpr ⟨tb_1 _ (List.mem_of_getElem? (i := 10) rfl), rfl⟩, (fun _ h => nomatch h)⟩⟩⟩
theorem wn_X4_9 : ∀ w ∈ [Cond.classLink RX4 9 RX5, .instantiable RX5 17, .initialized RX5], w ∈ WAL := List.forall_mem_cons.mpr ⟨List.mem_filter.mpr ⟨tb_1 _ (List.mem_of_getElem? (i := 84) rfl), rfl⟩, List.forall_mem_cons.mpr ⟨List.mem_filter.mpr ⟨tb_1 _ (List.mem_of_getElem? (i := 88) rfl), rfl⟩, List.forall_mem_cons.mpr ⟨List.mem_filter.mpr ⟨tb_1 _ (List.mem_of_getElem? (i := 4) rfl), rfl⟩, (fun _ h => nomatch h)⟩⟩⟩
theorem wn_X7_9 : ∀ w ∈ [Cond.classLink RX7 9 RX10, .instantiable RX10 16, .initialized RX10], w ∈ WAL := List.forall_mem_cons.mpr ⟨List.mem_filter.mpr ⟨tb_3 _ (List.mem_of_getElem? (i := 8) rfl), rfl⟩, List.forall_mem_cons.mpr ⟨List.mem_filter.mpr ⟨tb_3 _ (List.mem_of_getElem? (i := 9) rfl), rfl⟩, List.forall_mem_cons.mpr ⟨List.mem_filter.mpr ⟨tb_1 _ (List.mem_of_getElem? (i := 13) rfl), rfl⟩, (fun _ h => nomatch h)⟩⟩⟩
theorem wn_X7_26 : ∀ w ∈ [Cond.classLink RX7 26 RX1, .instantiable RX1 3, .initialized RX1], w ∈ WAL := List.forall_mem_cons.mpr ⟨List.mem_filter.mpr ⟨tb_3 _ (List.mem_of_getElem? (i := 94) rfl), rfl⟩, List.forall_mem_cons.mpr ⟨List.mem_filter.mpr ⟨tb_2 _ (List.mem_of_getElem? (i := 113) rfl), rfl⟩, List.forall_mem_cons.mpr ⟨List.mem_filter.mpr ⟨tb_1 _ (List.mem_of_getElem? (i := 10) rfl), rfl⟩, (fun _ h => nomatch h)⟩⟩⟩
theorem wn_X7_37 : ∀ w ∈ [Cond.classLink RX7 37 RX11, .instantiable RX11 6, .initialized RX11], w ∈ WAL := List.forall_mem_cons.mpr ⟨List.mem_filter.mpr ⟨tb_3 _ (List.mem_of_getElem? (i := 96) rfl), rfl⟩, List.forall_mem_cons.mpr ⟨List.mem_filter.mpr ⟨tb_2 _ (List.mem_of_getElem? (i := 141) rfl), rfl⟩, List.forall_mem_cons.mpr ⟨List.mem_filter.mpr ⟨tb_1 _ (List.mem_of_getElem? (i := 11) rfl), rfl⟩, (fun _ h => nomatch h)⟩⟩⟩
theorem wn_X9_9 : ∀ w ∈ [Cond.classLink RX9 9 RX3, .instantiable RX3 10, .initialized RX3], w ∈ WAL := List.forall_mem_cons.mpr ⟨List.mem_filter.mpr ⟨tb_2 _ (List.mem_of_getElem? (i := 54) rfl), rfl⟩, List.forall_mem_cons.mpr ⟨List.mem_filter.mpr ⟨tb_2 _ (List.mem_of_getElem? (i := 55) rfl), rfl⟩, List.forall_mem_cons.mpr ⟨List.mem_filter.mpr ⟨tb_1 _ (List.mem_of_getElem? (i := 8) rfl), rfl⟩, (fun _ h => nomatch h)⟩⟩⟩
theorem wn_X9_52 : ∀ w ∈ [Cond.classLink RX9 52 RX11, .instantiable RX11 6, .initialized RX11], w ∈ WAL := List.forall_mem_cons.mpr ⟨List.mem_filter.mpr ⟨tb_2 _ (List.mem_of_getElem? (i := 140) rfl), rfl⟩, List.forall_mem_cons.mpr ⟨List.mem_filter.mpr ⟨tb_2 _ (List.mem_of_getElem? (i := 141) rfl), rfl⟩, List.forall_mem_cons.mpr ⟨List.mem_filter.mpr ⟨tb_1 _ (List.mem_of_getElem? (i := 11) rfl), rfl⟩, (fun _ h => nomatch h)⟩⟩⟩
theorem wo_X11_3 : ∀ w ∈ [Cond.methodLink RX11 3 Lib.objectInit, .instanceMethod Lib.objectInit, .code Lib.objectInit ⟨#[0xb1]⟩ 1 none], w ∈ WAL := List.forall_mem_cons.mpr ⟨List.mem_filter.mpr ⟨tb_2 _ (List.mem_of_getElem? (i := 145) rfl), rfl⟩, List.forall_mem_cons.mpr ⟨List.mem_filter.mpr ⟨tb_1 _ (List.mem_of_getElem? (i := 40) rfl), rfl⟩, List.forall_mem_cons.mpr ⟨List.mem_filter.mpr ⟨tb_1 _ (List.mem_of_getElem? (i := 41) rfl), rfl⟩, (fun _ h => nomatch h)⟩⟩⟩
theorem wx_X12_180 : Cond.classLink RX12 180 RX1 ∈ WAL := List.mem_filter.mpr ⟨tb_2 _ (List.mem_of_getElem? (i := 111) rfl), rfl⟩
theorem wi_X12_29 : ∀ w ∈ [Cond.methodLink RX12 29 yX4_init, .instanceMethod yX4_init, .initialized yX4_init.cls, .code yX4_init cX4_init 2 none], w ∈ WAL := List.forall_mem_cons.mpr ⟨List.mem_filter.mpr ⟨tb_1 _ (List.mem_of_getElem? (i := 80) rfl), rfl⟩, List.forall_mem_cons.mpr ⟨List.mem_filter.mpr ⟨tb_1 _ (List.mem_of_getElem? (i := 81) rfl), rfl⟩, List.forall_mem_cons.mpr ⟨List.mem_filter.mpr ⟨tb_1 _ (List.mem_of_getElem? (i := 3) rfl), rfl⟩, List.forall_mem_cons.mpr ⟨List.mem_filter.mpr ⟨tb_1 _ (List.mem_of_getElem? (i := 82) rfl), rfl⟩, (fun _ h => nomatch h)⟩⟩⟩⟩
theorem wo_X12_3 : ∀ w ∈ [Cond.methodLink RX12 3 Lib.objectInit, .instanceMethod Lib.objectInit, .code Lib.objectInit ⟨#[0xb1]⟩ 1 none], w ∈ WAL := List.forall_mem_cons.mpr ⟨List.mem_filter.mpr ⟨tb_1 _ (List.mem_of_getElem? (i := 39) rfl), rfl⟩, List.forall_mem_cons.mpr ⟨List.mem_filter.mpr ⟨tb_1 _ (List.mem_of_getElem? (i := 40) rfl), rfl⟩, List.forall_mem_cons.mpr ⟨List.mem_filter.mpr ⟨tb_1 _ (List.mem_of_getElem? (i := 41) rfl), rfl⟩, (fun _ h => nomatch h)⟩⟩⟩
theorem wi_X12_46 : ∀ w ∈ [Cond.methodLink RX12 46 yX9_init, .instanceMethod yX9_init, .initialized yX9_init.cls, .code yX9_init cX9_init 2 none], w ∈ WAL := List.forall_mem_cons.mpr ⟨List.mem_filter.mpr ⟨tb_2 _ (List.mem_of_getElem? (i := 50) rfl), rfl⟩, List.forall_mem_cons.mpr ⟨List.mem_filter.mpr ⟨tb_2 _ (List.mem_of_getElem? (i := 51) rfl), rfl⟩, List.forall_mem_cons.mpr ⟨List.mem_filter.mpr ⟨tb_1 _ (List.mem_of_getElem? (i := 7) rfl), rfl⟩, List.forall_mem_cons.mpr ⟨List.mem_filter.mpr ⟨tb_2 _ (List.mem_of_getElem? (i := 52) rfl), rfl⟩, (fun _ h => nomatch h)⟩⟩⟩⟩
theorem wi_X12_55 : ∀ w ∈ [Cond.methodLink RX12 55 yX7_init, .instanceMethod yX7_init, .initialized yX7_init.cls, .code yX7_init cX7_init 2 none], w ∈ WAL := List.forall_mem_cons.mpr ⟨List.mem_filter.mpr ⟨tb_3 _ (List.mem_of_getElem? (i := 4) rfl), rfl⟩, List.forall_mem_cons.mpr ⟨List.mem_filter.mpr ⟨tb_3 _ (List.mem_of_getElem? (i := 5) rfl), rfl⟩, List.forall_mem_cons.mpr ⟨List.mem_filter.mpr ⟨tb_1 _ (List.mem_of_getElem? (i := 12) rfl), rfl⟩, List.forall_mem_cons.mpr ⟨List.mem_filter.mpr ⟨tb_3 _ (List.mem_of_getElem? (i := 6) rfl), rfl⟩, (fun _ h => nomatch h)⟩⟩⟩⟩
theorem wo_X3_3 : ∀ w ∈ [Cond.methodLink RX3 3 Lib.objectInit, .instanceMethod Lib.objectInit, .code Lib.objectInit ⟨#[0xb1]⟩ 1 none], w ∈ WAL := List.forall_mem_cons.mpr ⟨List.mem_filter.mpr ⟨tb_2 _ (List.mem_of_getElem? (i := 59) rfl), rfl⟩, List.forall_mem_cons.mpr ⟨List.mem_filter.mpr ⟨tb_1 _ (List.mem_of_getElem? (i := 40) rfl), rfl⟩, List.forall_mem_cons.mpr ⟨List.mem_filter.mpr ⟨tb_1 _ (List.mem_of_getElem? (i := 41) rfl), rfl⟩, (fun _ h => nomatch h)⟩⟩⟩
theorem wx_X3_9 : Cond.classLink RX3 9 RX10 ∈ WAL := List.mem_filter.mpr ⟨tb_2 _ (List.mem_of_getElem? (i := 60) rfl), rfl⟩
theorem wo_X4_3 : ∀ w ∈ [Cond.methodLink RX4 3 Lib.objectInit, .instanceMethod Lib.objectInit, .code Lib.objectInit ⟨#[0xb1]⟩ 1 none], w ∈ WAL := List.forall_mem_cons.mpr ⟨List.mem_filter.mpr ⟨tb_1 _ (List.mem_of_getElem? (i := 83) rfl), rfl⟩, List.forall_mem_cons.mpr ⟨List.mem_filter.mpr ⟨tb_1 _ (List.mem_of_getElem? (i := 40) rfl), rfl⟩, List.forall_mem_cons.mpr ⟨List.mem_filter.mpr ⟨tb_1 _ (List.mem_of_getElem? (i := 41) rfl), rfl⟩, (fun _ h => nomatch h)⟩⟩⟩
theorem wl_X4_34 : Cond.classLink RX4 34 "[[J" ∈ WAL := List.mem_filter.mpr ⟨tb_1 _ (List.mem_of_getElem? (i := 86) rfl), rfl⟩
theorem wx_X4_9 : Cond.classLink RX4 9 RX5 ∈ WAL := List.mem_filter.mpr ⟨tb_1 _ (List.mem_of_getElem? (i := 84) rfl), rfl⟩
theorem wo_X5_3 : ∀ w ∈ [Cond.methodLink RX5 3 Lib.objectInit, .instanceMethod Lib.objectInit, .code Lib.objectInit ⟨#[0xb1]⟩ 1 none], w ∈ WAL := List.forall_mem_cons.mpr ⟨List.mem_filter.mpr ⟨tb_1 _ (List.mem_of_getElem? (i := 92) rfl), rfl⟩, List.forall_mem_cons.mpr ⟨List.mem_filter.mpr ⟨tb_1 _ (List.mem_of_getElem? (i := 40) rfl), rfl⟩, List.forall_mem_cons.mpr ⟨List.mem_filter.mpr ⟨tb_1 _ (List.mem_of_getElem? (i := 41) rfl), rfl⟩, (fun _ h => nomatch h)⟩⟩⟩
theorem wo_X6_3 : ∀ w ∈ [Cond.methodLink RX6 3 Lib.objectInit, .instanceMethod Lib.objectInit, .code Lib.objectInit ⟨#[0xb1]⟩ 1 none], w ∈ WAL := List.forall_mem_cons.mpr ⟨List.mem_filter.mpr ⟨tb_1 _ (List.mem_of_getElem? (i := 47) rfl), rfl⟩, List.forall_mem_cons.mpr ⟨List.mem_filter.mpr ⟨tb_1 _ (List.mem_of_getElem? (i := 40) rfl), rfl⟩, List.forall_mem_cons.mpr ⟨List.mem_filter.mpr ⟨tb_1 _ (List.mem_of_getElem? (i := 41) rfl), rfl⟩, (fun _ h => nomatch h)⟩⟩⟩
theorem wo_X7_3 : ∀ w ∈ [Cond.methodLink RX7 3 Lib.objectInit, .instanceMethod Lib.objectInit, .code Lib.objectInit ⟨#[0xb1]⟩ 1 none], w ∈ WAL := List.forall_mem_cons.mpr ⟨List.mem_filter.mpr ⟨tb_3 _ (List.mem_of_getElem? (i := 7) rfl), rfl⟩, List.forall_mem_cons.mpr ⟨List.mem_filter.mpr ⟨tb_1 _ (List.mem_of_getElem? (i := 40) rfl), rfl⟩, List.forall_mem_cons.mpr ⟨List.mem_filter.mpr ⟨tb_1 _ (List.mem_of_getElem? (i := 41) rfl), rfl⟩, (fun _ h => nomatch h)⟩⟩⟩
theorem wi_X7_39 : ∀ w ∈ [Cond.methodLink RX7 39 yX11_init, .instanceMethod yX11_init, .initialized yX11_init.cls, .code yX11_init cX11_init 3 none], w ∈ WAL := List.forall_mem_cons.mpr ⟨List.mem_filter.mpr ⟨tb_3 _ (List.mem_of_getElem? (i := 97) rfl), rfl⟩, List.forall_mem_cons.mpr ⟨List.mem_filter.mpr ⟨tb_2 _ (List.mem_of_getElem? (i := 143) rfl), rfl⟩, List.forall_mem_cons.mpr ⟨List.mem_filter.mpr ⟨tb_1 _ (List.mem_of_getElem? (i := 11) rfl), rfl⟩, List.forall_mem_cons.mpr ⟨List.mem_filter.mpr ⟨tb_2 _ (List.mem_of_getElem? (i := 144) rfl), rfl⟩, (fun _ h => nomatch h)⟩⟩⟩⟩
theorem wo_X8_3 : ∀ w ∈ [Cond.methodLink RX8 3 Lib.objectInit, .instanceMethod Lib.objectInit, .code Lib.objectInit ⟨#[0xb1]⟩ 1 none], w ∈ WAL := List.forall_mem_cons.mpr ⟨List.mem_filter.mpr ⟨tb_2 _ (List.mem_of_getElem? (i := 35) rfl), rfl⟩, List.forall_mem_cons.mpr ⟨List.mem_filter.mpr ⟨tb_1 _ (List.mem_of_getElem? (i := 40) rfl), rfl⟩, List.forall_mem_cons.mpr ⟨List.mem_filter.mpr ⟨tb_1 _ (List.mem_of_getElem? (i := 41) rfl), rfl⟩, (fun _ h => nomatch h)⟩⟩⟩
theorem wx_X9_18 : Cond.classLink RX9 18 RX10 ∈ WAL := List.mem_filter.mpr ⟨tb_2 _ (List.mem_of_getElem? (i := 102) rfl), rfl⟩
theorem wx_X9_24 : Cond.classLink RX9 24 RX2 ∈ WAL := List.mem_filter.mpr ⟨tb_2 _ (List.mem_of_getElem? (i := 103) rfl), rfl⟩
theorem wo_X9_3 : ∀ w ∈ [Cond.methodLink RX9 3 Lib.objectInit, .instanceMethod Lib.objectInit, .code Lib.objectInit ⟨#[0xb1]⟩ 1 none], w ∈ WAL := List.forall_mem_cons.mpr ⟨List.mem_filter.mpr ⟨tb_2 _ (List.mem_of_getElem? (i := 53) rfl), rfl⟩, List.forall_mem_cons.mpr ⟨List.mem_filter.mpr ⟨tb_1 _ (List.mem_of_getElem? (i := 40) rfl), rfl⟩, List.forall_mem_cons.mpr ⟨List.mem_filter.mpr ⟨tb_1 _ (List.mem_of_getElem? (i := 41) rfl), rfl⟩, (fun _ h => nomatch h)⟩⟩⟩
theorem wi_X9_54 : ∀ w ∈ [Cond.methodLink RX9 54 yX11_init, .instanceMethod yX11_init, .initialized yX11_init.cls, .code yX11_init cX11_init 3 none], w ∈ WAL := List.forall_mem_cons.mpr ⟨List.mem_filter.mpr ⟨tb_2 _ (List.mem_of_getElem? (i := 142) rfl), rfl⟩, List.forall_mem_cons.mpr ⟨List.mem_filter.mpr ⟨tb_2 _ (List.mem_of_getElem? (i := 143) rfl), rfl⟩, List.forall_mem_cons.mpr ⟨List.mem_filter.mpr ⟨tb_1 _ (List.mem_of_getElem? (i := 11) rfl), rfl⟩, List.forall_mem_cons.mpr ⟨List.mem_filter.mpr ⟨tb_2 _ (List.mem_of_getElem? (i := 144) rfl), rfl⟩, (fun _ h => nomatch h)⟩⟩⟩⟩
theorem wa_102 : Cond.arrayClass .byte ∈ WAL := List.mem_filter.mpr ⟨tb_1 _ (List.mem_of_getElem? (i := 77) rfl), rfl⟩
theorem wa_103 : Cond.arrayClass .boolean ∈ WAL := List.mem_filter.mpr ⟨tb_1 _ (List.mem_of_getElem? (i := 198) rfl), rfl⟩
theorem wq_X11_init : ∀ w ∈ [Cond.instanceMethod yX11_init, .initialized yX11_init.cls, .code yX11_init cX11_init 3 none], w ∈ WAL := List.forall_mem_cons.mpr ⟨List.mem_filter.mpr ⟨tb_2 _ (List.mem_of_getElem? (i := 143) rfl), rfl⟩, List.forall_mem_cons.mpr ⟨List.mem_filter.mpr ⟨tb_1 _ (List.mem_of_getElem? (i := 11) rfl), rfl⟩, List.forall_mem_cons.mpr ⟨List.mem_filter.mpr ⟨tb_2 _ (List.mem_of_getElem? (i := 144) rfl), rfl⟩, (fun _ h => nomatch h)⟩⟩⟩
theorem wq_X12_newChains : ∀ w ∈ [Cond.static yX12_newChains, .initialized yX12_newChains.cls, .code yX12_newChains cX12_newChains 3 (some (.array (.object "StreamHouse$Chain")))], w ∈ WAL := List.forall_mem_cons.mpr ⟨List.mem_filter.mpr ⟨tb_2 _ (List.mem_of_getElem? (i := 106) rfl), rfl⟩, List.forall_mem_cons.mpr ⟨List.mem_filter.mpr ⟨tb_1 _ (List.mem_of_getElem? (i := 1) rfl), rfl⟩, List.forall_mem_cons.mpr ⟨List.mem_filter.mpr ⟨tb_2 _ (List.mem_of_getElem? (i := 107) rfl), rfl⟩, (fun _ h => nomatch h)⟩⟩⟩
theorem wq_X3_init : ∀ w ∈ [Cond.instanceMethod yX3_init, .initialized yX3_init.cls, .code yX3_init cX3_init 1 none], w ∈ WAL := List.forall_mem_cons.mpr ⟨List.mem_filter.mpr ⟨tb_2 _ (List.mem_of_getElem? (i := 57) rfl), rfl⟩, List.forall_mem_cons.mpr ⟨List.mem_filter.mpr ⟨tb_1 _ (List.mem_of_getElem? (i := 8) rfl), rfl⟩, List.forall_mem_cons.mpr ⟨List.mem_filter.mpr ⟨tb_2 _ (List.mem_of_getElem? (i := 58) rfl), rfl⟩, (fun _ h => nomatch h)⟩⟩⟩
theorem wq_X4_init : ∀ w ∈ [Cond.instanceMethod yX4_init, .initialized yX4_init.cls, .code yX4_init cX4_init 2 none], w ∈ WAL := List.forall_mem_cons.mpr ⟨List.mem_filter.mpr ⟨tb_1 _ (List.mem_of_getElem? (i := 81) rfl), rfl⟩, List.forall_mem_cons.mpr ⟨List.mem_filter.mpr ⟨tb_1 _ (List.mem_of_getElem? (i := 3) rfl), rfl⟩, List.forall_mem_cons.mpr ⟨List.mem_filter.mpr ⟨tb_1 _ (List.mem_of_getElem? (i := 82) rfl), rfl⟩, (fun _ h => nomatch h)⟩⟩⟩
theorem wq_X5_init : ∀ w ∈ [Cond.instanceMethod yX5_init, .initialized yX5_init.cls, .code yX5_init cX5_init 1 none], w ∈ WAL := List.forall_mem_cons.mpr ⟨List.mem_filter.mpr ⟨tb_1 _ (List.mem_of_getElem? (i := 90) rfl), rfl⟩, List.forall_mem_cons.mpr ⟨List.mem_filter.mpr ⟨tb_1 _ (List.mem_of_getElem? (i := 4) rfl), rfl⟩, List.forall_mem_cons.mpr ⟨List.mem_filter.mpr ⟨tb_1 _ (List.mem_of_getElem? (i := 91) rfl), rfl⟩, (fun _ h => nomatch h)⟩⟩⟩
theorem wq_X6_init : ∀ w ∈ [Cond.instanceMethod yX6_init, .initialized yX6_init.cls, .code yX6_init cX6_init 1 none], w ∈ WAL := List.forall_mem_cons.mpr ⟨List.mem_filter.mpr ⟨tb_1 _ (List.mem_of_getElem? (i := 45) rfl), rfl⟩, List.forall_mem_cons.mpr ⟨List.mem_filter.mpr ⟨tb_1 _ (List.mem_of_getElem? (i := 2) rfl), rfl⟩, List.forall_mem_cons.mpr ⟨List.mem_filter.mpr ⟨tb_1 _ (List.mem_of_getElem? (i := 46) rfl), rfl⟩, (fun _ h => nomatch h)⟩⟩⟩
theorem wq_X7_init : ∀ w ∈ [Cond.instanceMethod yX7_init, .initialized yX7_init.cls, .code yX7_init cX7_init 2 none], w ∈ WAL := List.forall_mem_cons.mpr ⟨List.mem_filter.mpr ⟨tb_3 _ (List.mem_of_getElem? (i := 5) rfl), rfl⟩, List.forall_mem_cons.mpr ⟨List.mem_filter.mpr ⟨tb_1 _ (List.mem_of_getElem? (i := 12) rfl), rfl⟩, List.forall_mem_cons.mpr ⟨List.mem_filter.mpr ⟨tb_3 _ (List.mem_of_getElem? (i := 6) rfl), rfl⟩, (fun _ h => nomatch h)⟩⟩⟩
theorem wq_X8_init : ∀ w ∈ [Cond.instanceMethod yX8_init, .initialized yX8_init.cls, .code yX8_init cX8_init 1 none], w ∈ WAL := List.forall_mem_cons.mpr ⟨List.mem_filter.mpr ⟨tb_2 _ (List.mem_of_getElem? (i := 33) rfl), rfl⟩, List.forall_mem_cons.mpr ⟨List.mem_filter.mpr ⟨tb_1 _ (List.mem_of_getElem? (i := 6) rfl), rfl⟩, List.forall_mem_cons.mpr ⟨List.mem_filter.mpr ⟨tb_2 _ (List.mem_of_getElem? (i := 34) rfl), rfl⟩, (fun _ h => nomatch h)⟩⟩⟩
theorem wq_X9_init : ∀ w ∈ [Cond.instanceMethod yX9_init, .initialized yX9_init.cls, .code yX9_init cX9_init 2 none], w ∈ WAL := List.forall_mem_cons.mpr ⟨List.mem_filter.mpr ⟨tb_2 _ (List.mem_of_getElem? (i := 51) rfl), rfl⟩, List.forall_mem_cons.mpr ⟨List.mem_filter.mpr ⟨tb_1 _ (List.mem_of_getElem? (i := 7) rfl), rfl⟩, List.forall_mem_cons.mpr ⟨List.mem_filter.mpr ⟨tb_2 _ (List.mem_of_getElem? (i := 52) rfl), rfl⟩, (fun _ h => nomatch h)⟩⟩⟩
section CCT
variable {p : Program} {l : Launch} {e : Env} {R : Room} {s : State} {m : MethodId} {args : Array Value} {below : List Frame} {meth : Method} {c : Code} {D : va_G} {cA : Nat → ClassId} {tys : List (ClassId × FieldType)} {A : Nat → Prop} {n0 s0 : Nat} {QM : State → Prop} {σi : Sg}
theorem dX11_init_0 : decode cX11_init 0 = .ok (.aload_n 0, 1) := by decide +kernel
theorem dX11_init_1 : decode cX11_init 1 = .ok (.invokespecial 3, 3) := by decide +kernel
theorem dX11_init_4 : decode cX11_init 4 = .ok (.aload_n 0, 1) := by decide +kernel
theorem dX11_init_5 : decode cX11_init 5 = .ok (.new 9, 3) := by decide +kernel
theorem dX11_init_8 : decode cX11_init 8 = .ok (.dup, 1) := by decide +kernel
theorem dX11_init_9 : decode cX11_init 9 = .ok (.invokespecial 11, 3) := by decide +kernel
theorem dX11_init_12 : decode cX11_init 12 = .ok (.putfield 12, 3) := by decide +kernel
theorem dX11_init_15 : decode cX11_init 15 = .ok (.aload_n 0, 1) := by decide +kernel
theorem dX11_init_16 : decode cX11_init 16 = .ok (.iconst 4, 1) := by decide +kernel
theorem dX11_init_17 : decode cX11_init 17 = .ok (.newarray .long, 2) := by decide +kernel
theorem dX11_init_19 : decode cX11_init 19 = .ok (.putfield 18, 3) := by decide +kernel
theorem dX11_init_22 : decode cX11_init 22 = .ok (.aload_n 0, 1) := by decide +kernel
theorem dX11_init_23 : decode cX11_init 23 = .ok (.aload_n 1, 1) := by decide +kernel
theorem dX11_init_24 : decode cX11_init 24 = .ok (.putfield 22, 3) := by decide +kernel
theorem dX11_init_27 : decode cX11_init 27 = .ok (.aload_n 0, 1) := by decide +kernel
theorem dX11_init_28 : decode cX11_init 28 = .ok (.iload_n 2, 1) := by decide +kernel
theorem dX11_init_29 : decode cX11_init 29 = .ok (.putfield 26, 3) := by decide +kernel
theorem dX11_init_32 : decode cX11_init 32 = .ok (.return_, 1) := by decide +kernel
set_option maxRecDepth 20000 in
theorem a_X11_init_0 {Q : Sg → Unit → Prop} {X : Sg → String → Prop} {th : Nat} (K : MD l R p s m args c cX11_init 3 RX11 D cA tys A n0 s0 2 32 []) (hQ : CQV p l e R s m args below meth c cX11_init D cA A n0 s0 QM σi Q) (hX : CX p l e R s m args below meth c 3 D cA A n0 s0 QM σi X) (hTh : CT p l e R s m args below meth c cX11_init 3 D cA A n0 s0 QM σi RX11 X) (hin9 : yX11_init.name = "<init>" → meth.name = "<init>") (hX0 : ∀ σ E, ¬ X σ E) : ∀ (σ : Sg) (v1 : Option Nat) (v2 : Int) (g1 : tyV σ 8 v1) (g2 : rng v2), w_X11_init_0 th Q X σ v1 v2 → RG σ → TY σ → Ext σi σ → kO σ th 11 → JJ p l e R s m args below meth c 3 D cA A n0 s0 QM σ 0 [(0, .ref th), (1, va_rf v1), (2, .int (i32 v2))] [] := by
  intro σ v1 v2 g1 g2 h hGσ hYσ hE hth H locs ls hH hl hc
  have B := K.1
  have hl9 := K.2.2.2.2.2.2
  unfold w_X11_init_0 at h
  refine lv_aload_n B.1 B.2.1 dX11_init_0 rfl (lv_at hl 0 rfl) ?_
  refine h_oinit B hl wo_X11_3 (by have := K.2.2.2.1; omega) (by have := K.2.2.2.2.1; omega) dX11_init_1 ?_
  refine lv_aload_n B.1 B.2.1 dX11_init_4 rfl (lv_at hl 0 rfl) ?_
  obtain ⟨zq19, h⟩ := h
  refine c_new B hH hc K.2.2.1 (ci := 1) rfl (by decide) wu_X1 tyX1 tyX1_ok (by decide) wn_X11_9 zq19 dX11_init_5 (fun q19 H hq19 hH hc => ?_)
  obtain ⟨σ20, eσ20⟩ : ∃ z, z = new1 σ q19 1 3 := ⟨_, rfl⟩
  have h := h q19 hq19 σ20 eσ20
  rw [← eσ20] at hH hc ⊢
  have hGσ20 : RG σ20 := by rw [eσ20]; exact hGσ.new1
  have hYσ20 : TY σ20 := by rw [eσ20]; exact hYσ.new1 hq19
  have xσ20 : Ext σ σ20 := by rw [eσ20]; exact Ext.new1 hq19
  have kq19 : kO σ20 q19 1 := by rw [eσ20]; exact kO.new1
  refine lv_dup B.1 B.2.1 dX11_init_8 rfl ?_
  refine W.eq (g2 := F0 m 9 ls [.ref q19, .ref q19, .ref th]) (rfl) ?_
  refine c_IN B hH hl hc K.2.2.1 (As := []) (ok_X1_init hl9 K.2.1 σ20 q19 kq19 hGσ20 hYσ20 (nx_X1_init h)) (fun _ _ h9 => h9.1) (List.mem_of_getElem? (l := nmL) (i := 6) rfl) rfl wq_X1_init 0 hd_X1_init ⟨Nat.le_trans (Nat.le_of_ble_eq_true rfl) K.2.2.2.1, Nat.le_trans (Nat.le_of_ble_eq_true rfl) K.2.2.2.2.1⟩ rfl (rest := [.ref q19, .ref th]) rfl (Nat.le_of_ble_eq_true rfl) dX11_init_9 (fun σ21 w hq => ?_)
  obtain ⟨rfl, h, hGσ21, hYσ21, xσ21⟩ := hq
  have h := h xσ21
  intro H locs ls hH hl hc
  refine W.eq (g2 := F0 m 12 ls [.ref q19, .ref th]) (rfl) ?_
  try dsimp only at h
  obtain ⟨σ22, eσ22⟩ : ∃ z, z = pP σ21 th 2 (some q19) := ⟨_, rfl⟩
  have h := h σ22 eσ22
  refine W.eq (g2 := F0 m 12 ls [va_rf (some q19), .ref th]) (rfl) ?_
  refine f_putF B hH (hth.up (xσ20.trans xσ21)) (by decide) rfl wu_X11 tyX11 tyX11_ok nmX11 2 (by decide) wf_X11_12 rfl (r := (some q19)) (ty := .object "StreamHouse$Chain") rfl (hin9 rfl) rfl rfl rfl (nrO _ _) (ftO _ _) dX11_init_12 (fun H locs hH => ?_)
  have hH : Hd D cA A s (pP σ21 th 2 (some q19)) H locs := hH
  rw [← eσ22] at hH
  have hGσ22 : RG σ22 := by rw [eσ22]; exact hGσ21.pP
  have hYσ22 : TY σ22 := by rw [eσ22]; exact hYσ21.pP (hth.up (xσ20.trans xσ21)) (d := 1) (by decide) (tyS1 (kq19.up xσ21))
  have xσ22 : Ext σ21 σ22 := by rw [eσ22]; exact Ext.pP
  have hc : CB n0 s0 σ22 := by rw [eσ22]; exact hc
  rw [show gc σ21 = gc σ22 by rw [eσ22]; try rfl, show gs σ21 = gs σ22 by rw [eσ22]; try rfl]
  refine lv_aload_n B.1 B.2.1 dX11_init_15 rfl (lv_at hl 0 rfl) ?_
  refine lv_iconst (v := i32 4) B.1 B.2.1 dX11_init_16 (by decide) ?_
  obtain ⟨zq23, h⟩ := h
  refine c_newJ B K.2.1 hH hc K.2.2.1 wa_101 (n := (4 : Int)) ⟨(by omega), by have : gs σ22 + 4 ≤ 7000000 := zq23.2; omega⟩ zq23 dX11_init_17 (fun q23 H hq23 hH hc => ?_)
  obtain ⟨σ24, eσ24⟩ : ∃ z, z = newA σ22 q23 101 4 := ⟨_, rfl⟩
  have h := h q23 hq23 σ24 eσ24
  have hH : Hd D cA A s (newA σ22 q23 101 4) H locs := hH
  have hc : CB n0 s0 (newA σ22 q23 101 4) := hc
  show W p l e R s m args below meth c H locs (gc (newA σ22 q23 101 4) - n0) (gs (newA σ22 q23 101 4) - s0) QM _
  rw [← eσ24] at hH hc ⊢
  have hGσ24 : RG σ24 := by rw [eσ24]; exact hGσ22.newA
  have hYσ24 : TY σ24 := by rw [eσ24]; exact hYσ22.newA hq23 (by have : gs σ22 + 4 ≤ 7000000 := zq23.2; omega)
  have xσ24 : Ext σ22 σ24 := by rw [eσ24]; exact Ext.newA hq23
  have kq23 : kO σ24 q23 101 := by rw [eσ24]; exact kO.newA
  obtain ⟨σ25, eσ25⟩ : ∃ z, z = pP σ24 th 3 (some q23) := ⟨_, rfl⟩
  have h := h σ25 eσ25
  refine W.eq (g2 := F0 m 19 ls [va_rf (some q23), .ref th]) (rfl) ?_
  refine f_putF B hH (hth.up (xσ20.trans (xσ21.trans (xσ22.trans xσ24)))) (by decide) rfl wu_X11 tyX11 tyX11_ok nmX11 3 (by decide) wf_X11_18 rfl (r := (some q23)) (ty := .array .long) rfl (hin9 rfl) rfl rfl rfl (nrA _ _) (ftA _ _) dX11_init_19 (fun H locs hH => ?_)
  have hH : Hd D cA A s (pP σ24 th 3 (some q23)) H locs := hH
  rw [← eσ25] at hH
  have hGσ25 : RG σ25 := by rw [eσ25]; exact hGσ24.pP
  have hYσ25 : TY σ25 := by rw [eσ25]; exact hYσ24.pP (hth.up (xσ20.trans (xσ21.trans (xσ22.trans xσ24)))) (d := 101) (by decide) (tyS1 kq23)
  have xσ25 : Ext σ24 σ25 := by rw [eσ25]; exact Ext.pP
  have hc : CB n0 s0 σ25 := by rw [eσ25]; exact hc
  rw [show gc σ24 = gc σ25 by rw [eσ25]; try rfl, show gs σ24 = gs σ25 by rw [eσ25]; try rfl]
  refine lv_aload_n B.1 B.2.1 dX11_init_22 rfl (lv_at hl 0 rfl) ?_
  refine lv_aload_nQ B.1 B.2.1 dX11_init_23 rfl (lv_at hl 1 rfl) ?_
  obtain ⟨σ26, eσ26⟩ : ∃ z, z = pP σ25 th 0 v1 := ⟨_, rfl⟩
  have h := h σ26 eσ26
  refine W.eq (g2 := F0 m 24 ls [va_rf v1, .ref th]) (rfl) ?_
  refine f_putF B hH (hth.up (xσ20.trans (xσ21.trans (xσ22.trans (xσ24.trans xσ25))))) (by decide) rfl wu_X11 tyX11 tyX11_ok nmX11 0 (by decide) wf_X11_22 rfl (r := v1) (ty := .object "StreamHouse$Pool") rfl (hin9 rfl) rfl rfl rfl (nrO _ _) (ftO _ _) dX11_init_24 (fun H locs hH => ?_)
  have hH : Hd D cA A s (pP σ25 th 0 v1) H locs := hH
  rw [← eσ26] at hH
  have hGσ26 : RG σ26 := by rw [eσ26]; exact hGσ25.pP
  have hYσ26 : TY σ26 := by rw [eσ26]; exact hYσ25.pP (hth.up (xσ20.trans (xσ21.trans (xσ22.trans (xσ24.trans xσ25))))) (d := 8) (by decide) (g1.up (xσ20.trans (xσ21.trans (xσ22.trans (xσ24.trans xσ25)))))
  have xσ26 : Ext σ25 σ26 := by rw [eσ26]; exact Ext.pP
  have hc : CB n0 s0 σ26 := by rw [eσ26]; exact hc
  rw [show gc σ25 = gc σ26 by rw [eσ26]; try rfl, show gs σ25 = gs σ26 by rw [eσ26]; try rfl]
  refine lv_aload_n B.1 B.2.1 dX11_init_27 rfl (lv_at hl 0 rfl) ?_
  refine lv_iload_n B.1 B.2.1 dX11_init_28 rfl (lv_at hl 2 rfl) ?_
  obtain ⟨σ27, eσ27⟩ : ∃ z, z = pI σ26 th 1 v2 := ⟨_, rfl⟩
  have h := h σ27 eσ27
  refine f_putFi B hH (hth.up (xσ20.trans (xσ21.trans (xσ22.trans (xσ24.trans (xσ25.trans xσ26)))))) (by decide) rfl wu_X11 tyX11 tyX11_ok nmX11 1 (by decide) wf_X11_26 rfl (ty := .int) rfl (hin9 rfl) rfl rfl rfl rfl rfl dX11_init_29 (fun H locs hH => ?_)
  have hH : Hd D cA A s (pI σ26 th 1 v2) H locs := hH
  rw [← eσ27] at hH
  have hGσ27 : RG σ27 := by rw [eσ27]; exact hGσ26.pI g2
  have hYσ27 : TY σ27 := by rw [eσ27]; exact hYσ26.pI
  have xσ27 : Ext σ26 σ27 := by rw [eσ27]; exact Ext.pI
  have hc : CB n0 s0 σ27 := by rw [eσ27]; exact hc
  rw [show gc σ26 = gc σ27 by rw [eσ27]; try rfl, show gs σ26 = gs σ27 by rw [eσ27]; try rfl]
  exact hQ _ _ _ _ _ dX11_init_32 hH hc h hGσ27 hYσ27 (((((((hE.trans xσ20).trans xσ21).trans xσ22).trans xσ24).trans xσ25).trans xσ26).trans xσ27)
theorem ok_X11_init (hl0 : l.stackTraces = false) (hT : TyC cA tys) {Q : Sg → Unit → Prop} {X : Sg → String → Prop} (hX0 : ∀ σ E, ¬ X σ E) (σ : Sg) (th : Nat) (v1 : Option Nat) (v2 : Int) (g1 : tyV σ 8 v1) (g2 : rng v2) (hth : kO σ th 11) (hG : RG σ) (hY : TY σ) (h : wp_X11_init th v1 v2 σ Q X) : Ok l D cA tys A yX11_init (.code yX11_init cX11_init 3 none) 2 32 [.ref th, va_rf v1, .int (i32 v2)] σ (QcV σ Q) (QxC σ X) := by
  unfold wp_X11_init at h
  exact oc_V hl0 (by decide) (by cases v1 <;> exact Nat.le_of_ble_eq_true rfl) hT (fun p e R s m args below meth c K hQ hX hTh hin9 H locs ls hH hl hc => a_X11_init_0 K hQ hX hTh hin9 hX0 σ v1 v2 g1 g2 h hG hY (Ext.rfl' σ) hth H locs ls hH (lv_sub (l' := [(0, .ref th), (1, va_rf v1), (2, .int (i32 v2))]) hl [0, 1, 2] (by cases v1 <;> rfl)) hc)
theorem dX5_init_0 : decode cX5_init 0 = .ok (.aload_n 0, 1) := by decide +kernel
theorem dX5_init_1 : decode cX5_init 1 = .ok (.invokespecial 3, 3) := by decide +kernel
theorem dX5_init_4 : decode cX5_init 4 = .ok (.aload_n 0, 1) := by decide +kernel
theorem dX5_init_5 : decode cX5_init 5 = .ok (.bipush 8, 2) := by decide +kernel
theorem dX5_init_7 : decode cX5_init 7 = .ok (.newarray .long, 2) := by decide +kernel
theorem dX5_init_9 : decode cX5_init 9 = .ok (.putfield 9, 3) := by decide +kernel
theorem dX5_init_12 : decode cX5_init 12 = .ok (.aload_n 0, 1) := by decide +kernel
theorem dX5_init_13 : decode cX5_init 13 = .ok (.bipush 8, 2) := by decide +kernel
theorem dX5_init_15 : decode cX5_init 15 = .ok (.newarray .int, 2) := by decide +kernel
theorem dX5_init_17 : decode cX5_init 17 = .ok (.putfield 15, 3) := by decide +kernel
theorem dX5_init_20 : decode cX5_init 20 = .ok (.aload_n 0, 1) := by decide +kernel
theorem dX5_init_21 : decode cX5_init 21 = .ok (.iconst 4, 1) := by decide +kernel
theorem dX5_init_22 : decode cX5_init 22 = .ok (.newarray .int, 2) := by decide +kernel
theorem dX5_init_24 : decode cX5_init 24 = .ok (.putfield 19, 3) := by decide +kernel
theorem dX5_init_27 : decode cX5_init 27 = .ok (.return_, 1) := by decide +kernel
set_option maxRecDepth 20000 in
theorem a_X5_init_0 {Q : Sg → Unit → Prop} {X : Sg → String → Prop} {th : Nat} (K : MD l R p s m args c cX5_init 1 RX5 D cA tys A n0 s0 1 12 []) (hQ : CQV p l e R s m args below meth c cX5_init D cA A n0 s0 QM σi Q) (hX : CX p l e R s m args below meth c 1 D cA A n0 s0 QM σi X) (hTh : CT p l e R s m args below meth c cX5_init 1 D cA A n0 s0 QM σi RX5 X) (hin9 : yX5_init.name = "<init>" → meth.name = "<init>") (hX0 : ∀ σ E, ¬ X σ E) : ∀ (σ : Sg), w_X5_init_0 th Q X σ → RG σ → TY σ → Ext σi σ → kO σ th 5 → JJ p l e R s m args below meth c 1 D cA A n0 s0 QM σ 0 [(0, .ref th)] [] := by
  intro σ h hGσ hYσ hE hth H locs ls hH hl hc
  have B := K.1
  have hl9 := K.2.2.2.2.2.2
  unfold w_X5_init_0 at h
  refine lv_aload_n B.1 B.2.1 dX5_init_0 rfl (lv_at hl 0 rfl) ?_
  refine h_oinit B hl wo_X5_3 (by have := K.2.2.2.1; omega) (by have := K.2.2.2.2.1; omega) dX5_init_1 ?_
  refine lv_aload_n B.1 B.2.1 dX5_init_4 rfl (lv_at hl 0 rfl) ?_
  refine lv_bipush (v := i32 8) B.1 B.2.1 dX5_init_5 (by decide) ?_
  obtain ⟨zq19, h⟩ := h
  refine c_newJ B K.2.1 hH hc K.2.2.1 wa_101 (n := (8 : Int)) ⟨(by omega), by have : gs σ + 8 ≤ 7000000 := zq19.2; omega⟩ zq19 dX5_init_7 (fun q19 H hq19 hH hc => ?_)
  obtain ⟨σ20, eσ20⟩ : ∃ z, z = newA σ q19 101 8 := ⟨_, rfl⟩
  have h := h q19 hq19 σ20 eσ20
  have hH : Hd D cA A s (newA σ q19 101 8) H locs := hH
  have hc : CB n0 s0 (newA σ q19 101 8) := hc
  show W p l e R s m args below meth c H locs (gc (newA σ q19 101 8) - n0) (gs (newA σ q19 101 8) - s0) QM _
  rw [← eσ20] at hH hc ⊢
  have hGσ20 : RG σ20 := by rw [eσ20]; exact hGσ.newA
  have hYσ20 : TY σ20 := by rw [eσ20]; exact hYσ.newA hq19 (by have : gs σ + 8 ≤ 7000000 := zq19.2; omega)
  have xσ20 : Ext σ σ20 := by rw [eσ20]; exact Ext.newA hq19
  have kq19 : kO σ20 q19 101 := by rw [eσ20]; exact kO.newA
  obtain ⟨σ21, eσ21⟩ : ∃ z, z = pP σ20 th 0 (some q19) := ⟨_, rfl⟩
  have h := h σ21 eσ21
  refine W.eq (g2 := F0 m 9 ls [va_rf (some q19), .ref th]) (rfl) ?_
  refine f_putF B hH (hth.up xσ20) (by decide) rfl wu_X5 tyX5 tyX5_ok nmX5 0 (by decide) wf_X5_9 rfl (r := (some q19)) (ty := .array .long) rfl (hin9 rfl) rfl rfl rfl (nrA _ _) (ftA _ _) dX5_init_9 (fun H locs hH => ?_)
  have hH : Hd D cA A s (pP σ20 th 0 (some q19)) H locs := hH
  rw [← eσ21] at hH
  have hGσ21 : RG σ21 := by rw [eσ21]; exact hGσ20.pP
  have hYσ21 : TY σ21 := by rw [eσ21]; exact hYσ20.pP (hth.up xσ20) (d := 101) (by decide) (tyS1 kq19)
  have xσ21 : Ext σ20 σ21 := by rw [eσ21]; exact Ext.pP
  have hc : CB n0 s0 σ21 := by rw [eσ21]; exact hc
  rw [show gc σ20 = gc σ21 by rw [eσ21]; try rfl, show gs σ20 = gs σ21 by rw [eσ21]; try rfl]
  refine lv_aload_n B.1 B.2.1 dX5_init_12 rfl (lv_at hl 0 rfl) ?_
  refine lv_bipush (v := i32 8) B.1 B.2.1 dX5_init_13 (by decide) ?_
  obtain ⟨zq22, h⟩ := h
  refine c_newI B K.2.1 hH hc K.2.2.1 wa_100 (n := (8 : Int)) ⟨(by omega), by have : gs σ21 + 8 ≤ 7000000 := zq22.2; omega⟩ zq22 dX5_init_15 (fun q22 H hq22 hH hc => ?_)
  obtain ⟨σ23, eσ23⟩ : ∃ z, z = newA σ21 q22 100 8 := ⟨_, rfl⟩
  have h := h q22 hq22 σ23 eσ23
  have hH : Hd D cA A s (newA σ21 q22 100 8) H locs := hH
  have hc : CB n0 s0 (newA σ21 q22 100 8) := hc
  show W p l e R s m args below meth c H locs (gc (newA σ21 q22 100 8) - n0) (gs (newA σ21 q22 100 8) - s0) QM _
  rw [← eσ23] at hH hc ⊢
  have hGσ23 : RG σ23 := by rw [eσ23]; exact hGσ21.newA
  have hYσ23 : TY σ23 := by rw [eσ23]; exact hYσ21.newA hq22 (by have : gs σ21 + 8 ≤ 7000000 := zq22.2; omega)
  have xσ23 : Ext σ21 σ23 := by rw [eσ23]; exact Ext.newA hq22
  have kq22 : kO σ23 q22 100 := by rw [eσ23]; exact kO.newA
  obtain ⟨σ24, eσ24⟩ : ∃ z, z = pP σ23 th 1 (some q22) := ⟨_, rfl⟩
  have h := h σ24 eσ24
  refine W.eq (g2 := F0 m 17 ls [va_rf (some q22), .ref th]) (rfl) ?_
  refine f_putF B hH (hth.up (xσ20.trans (xσ21.trans xσ23))) (by decide) rfl wu_X5 tyX5 tyX5_ok nmX5 1 (by decide) wf_X5_15 rfl (r := (some q22)) (ty := .array .int) rfl (hin9 rfl) rfl rfl rfl (nrA _ _) (ftA _ _) dX5_init_17 (fun H locs hH => ?_)
  have hH : Hd D cA A s (pP σ23 th 1 (some q22)) H locs := hH
  rw [← eσ24] at hH
  have hGσ24 : RG σ24 := by rw [eσ24]; exact hGσ23.pP
  have hYσ24 : TY σ24 := by rw [eσ24]; exact hYσ23.pP (hth.up (xσ20.trans (xσ21.trans xσ23))) (d := 100) (by decide) (tyS1 kq22)
  have xσ24 : Ext σ23 σ24 := by rw [eσ24]; exact Ext.pP
  have hc : CB n0 s0 σ24 := by rw [eσ24]; exact hc
  rw [show gc σ23 = gc σ24 by rw [eσ24]; try rfl, show gs σ23 = gs σ24 by rw [eσ24]; try rfl]
  refine lv_aload_n B.1 B.2.1 dX5_init_20 rfl (lv_at hl 0 rfl) ?_
  refine lv_iconst (v := i32 4) B.1 B.2.1 dX5_init_21 (by decide) ?_
  obtain ⟨zq25, h⟩ := h
  refine c_newI B K.2.1 hH hc K.2.2.1 wa_100 (n := (4 : Int)) ⟨(by omega), by have : gs σ24 + 4 ≤ 7000000 := zq25.2; omega⟩ zq25 dX5_init_22 (fun q25 H hq25 hH hc => ?_)
  obtain ⟨σ26, eσ26⟩ : ∃ z, z = newA σ24 q25 100 4 := ⟨_, rfl⟩
  have h := h q25 hq25 σ26 eσ26
  have hH : Hd D cA A s (newA σ24 q25 100 4) H locs := hH
  have hc : CB n0 s0 (newA σ24 q25 100 4) := hc
  show W p l e R s m args below meth c H locs (gc (newA σ24 q25 100 4) - n0) (gs (newA σ24 q25 100 4) - s0) QM _
  rw [← eσ26] at hH hc ⊢
  have hGσ26 : RG σ26 := by rw [eσ26]; exact hGσ24.newA
  have hYσ26 : TY σ26 := by rw [eσ26]; exact hYσ24.newA hq25 (by have : gs σ24 + 4 ≤ 7000000 := zq25.2; omega)
  have xσ26 : Ext σ24 σ26 := by rw [eσ26]; exact Ext.newA hq25
  have kq25 : kO σ26 q25 100 := by rw [eσ26]; exact kO.newA
  obtain ⟨σ27, eσ27⟩ : ∃ z, z = pP σ26 th 2 (some q25) := ⟨_, rfl⟩
  have h := h σ27 eσ27
  refine W.eq (g2 := F0 m 24 ls [va_rf (some q25), .ref th]) (rfl) ?_
  refine f_putF B hH (hth.up (xσ20.trans (xσ21.trans (xσ23.trans (xσ24.trans xσ26))))) (by decide) rfl wu_X5 tyX5 tyX5_ok nmX5 2 (by decide) wf_X5_19 rfl (r := (some q25)) (ty := .array .int) rfl (hin9 rfl) rfl rfl rfl (nrA _ _) (ftA _ _) dX5_init_24 (fun H locs hH => ?_)
  have hH : Hd D cA A s (pP σ26 th 2 (some q25)) H locs := hH
  rw [← eσ27] at hH
  have hGσ27 : RG σ27 := by rw [eσ27]; exact hGσ26.pP
  have hYσ27 : TY σ27 := by rw [eσ27]; exact hYσ26.pP (hth.up (xσ20.trans (xσ21.trans (xσ23.trans (xσ24.trans xσ26))))) (d := 100) (by decide) (tyS1 kq25)
  have xσ27 : Ext σ26 σ27 := by rw [eσ27]; exact Ext.pP
  have hc : CB n0 s0 σ27 := by rw [eσ27]; exact hc
  rw [show gc σ26 = gc σ27 by rw [eσ27]; try rfl, show gs σ26 = gs σ27 by rw [eσ27]; try rfl]
  exact hQ _ _ _ _ _ dX5_init_27 hH hc h hGσ27 hYσ27 ((((((hE.trans xσ20).trans xσ21).trans xσ23).trans xσ24).trans xσ26).trans xσ27)
theorem ok_X5_init (hl0 : l.stackTraces = false) (hT : TyC cA tys) {Q : Sg → Unit → Prop} {X : Sg → String → Prop} (hX0 : ∀ σ E, ¬ X σ E) (σ : Sg) (th : Nat) (hth : kO σ th 5) (hG : RG σ) (hY : TY σ) (h : wp_X5_init th σ Q X) : Ok l D cA tys A yX5_init (.code yX5_init cX5_init 1 none) 1 12 [.ref th] σ (QcV σ Q) (QxC σ X) := by
  unfold wp_X5_init at h
  exact oc_V hl0 (by decide) (by exact Nat.le_of_ble_eq_true rfl) hT (fun p e R s m args below meth c K hQ hX hTh hin9 H locs ls hH hl hc => a_X5_init_0 K hQ hX hTh hin9 hX0 σ h hG hY (Ext.rfl' σ) hth H locs ls hH (lv_sub (l' := [(0, .ref th)]) hl [0] rfl) hc)
theorem dX4_init_0 : decode cX4_init 0 = .ok (.aload_n 0, 1) := by decide +kernel
theorem dX4_init_1 : decode cX4_init 1 = .ok (.invokespecial 3, 3) := by decide +kernel
theorem dX4_init_4 : decode cX4_init 4 = .ok (.aload_n 0, 1) := by decide +kernel
theorem dX4_init_5 : decode cX4_init 5 = .ok (.bipush 16, 2) := by decide +kernel
theorem dX4_init_7 : decode cX4_init 7 = .ok (.anewarray 9, 3) := by decide +kernel
theorem dX4_init_10 : decode cX4_init 10 = .ok (.putfield 11, 3) := by decide +kernel
theorem dX4_init_13 : decode cX4_init 13 = .ok (.aload_n 0, 1) := by decide +kernel
theorem dX4_init_14 : decode cX4_init 14 = .ok (.iconst 4, 1) := by decide +kernel
theorem dX4_init_15 : decode cX4_init 15 = .ok (.newarray .int, 2) := by decide +kernel
theorem dX4_init_17 : decode cX4_init 17 = .ok (.putfield 17, 3) := by decide +kernel
theorem dX4_init_20 : decode cX4_init 20 = .ok (.aload_n 0, 1) := by decide +kernel
theorem dX4_init_21 : decode cX4_init 21 = .ok (.iconst 4, 1) := by decide +kernel
theorem dX4_init_22 : decode cX4_init 22 = .ok (.newarray .int, 2) := by decide +kernel
theorem dX4_init_24 : decode cX4_init 24 = .ok (.putfield 21, 3) := by decide +kernel
theorem dX4_init_27 : decode cX4_init 27 = .ok (.aload_n 0, 1) := by decide +kernel
theorem dX4_init_28 : decode cX4_init 28 = .ok (.bipush 64, 2) := by decide +kernel
theorem dX4_init_30 : decode cX4_init 30 = .ok (.newarray .int, 2) := by decide +kernel
theorem dX4_init_32 : decode cX4_init 32 = .ok (.putfield 24, 3) := by decide +kernel
theorem dX4_init_35 : decode cX4_init 35 = .ok (.aload_n 0, 1) := by decide +kernel
theorem dX4_init_36 : decode cX4_init 36 = .ok (.bipush 64, 2) := by decide +kernel
theorem dX4_init_38 : decode cX4_init 38 = .ok (.newarray .long, 2) := by decide +kernel
theorem dX4_init_40 : decode cX4_init 40 = .ok (.putfield 27, 3) := by decide +kernel
theorem dX4_init_43 : decode cX4_init 43 = .ok (.aload_n 0, 1) := by decide +kernel
theorem dX4_init_44 : decode cX4_init 44 = .ok (.bipush 64, 2) := by decide +kernel
theorem dX4_init_46 : decode cX4_init 46 = .ok (.newarray .long, 2) := by decide +kernel
theorem dX4_init_48 : decode cX4_init 48 = .ok (.putfield 31, 3) := by decide +kernel
theorem dX4_init_51 : decode cX4_init 51 = .ok (.aload_n 0, 1) := by decide +kernel
theorem dX4_init_52 : decode cX4_init 52 = .ok (.iconst 4, 1) := by decide +kernel
theorem dX4_init_53 : decode cX4_init 53 = .ok (.sipush 320, 3) := by decide +kernel
theorem dX4_init_56 : decode cX4_init 56 = .ok (.multianewarray 34 2, 4) := by decide +kernel
theorem dX4_init_60 : decode cX4_init 60 = .ok (.putfield 36, 3) := by decide +kernel
theorem dX4_init_63 : decode cX4_init 63 = .ok (.aload_n 0, 1) := by decide +kernel
theorem dX4_init_64 : decode cX4_init 64 = .ok (.iconst 4, 1) := by decide +kernel
theorem dX4_init_65 : decode cX4_init 65 = .ok (.newarray .int, 2) := by decide +kernel
theorem dX4_init_67 : decode cX4_init 67 = .ok (.putfield 39, 3) := by decide +kernel
theorem dX4_init_70 : decode cX4_init 70 = .ok (.aload_n 0, 1) := by decide +kernel
theorem dX4_init_71 : decode cX4_init 71 = .ok (.iconst 4, 1) := by decide +kernel
theorem dX4_init_72 : decode cX4_init 72 = .ok (.newarray .boolean, 2) := by decide +kernel
theorem dX4_init_74 : decode cX4_init 74 = .ok (.putfield 42, 3) := by decide +kernel
theorem dX4_init_77 : decode cX4_init 77 = .ok (.iconst 0, 1) := by decide +kernel
theorem dX4_init_78 : decode cX4_init 78 = .ok (.istore_n 1, 1) := by decide +kernel
theorem dX4_init_79 : decode cX4_init 79 = .ok (.iload_n 1, 1) := by decide +kernel
theorem dX4_init_80 : decode cX4_init 80 = .ok (.bipush 16, 2) := by decide +kernel
theorem dX4_init_82 : decode cX4_init 82 = .ok (.if_icmp .ge 22, 3) := by decide +kernel
theorem dX4_init_85 : decode cX4_init 85 = .ok (.aload_n 0, 1) := by decide +kernel
theorem dX4_init_86 : decode cX4_init 86 = .ok (.getfield 11, 3) := by decide +kernel
theorem dX4_init_89 : decode cX4_init 89 = .ok (.iload_n 1, 1) := by decide +kernel
theorem dX4_init_90 : decode cX4_init 90 = .ok (.new 9, 3) := by decide +kernel
theorem dX4_init_93 : decode cX4_init 93 = .ok (.dup, 1) := by decide +kernel
theorem dX4_init_94 : decode cX4_init 94 = .ok (.invokespecial 46, 3) := by decide +kernel
theorem dX4_init_97 : decode cX4_init 97 = .ok (.aastore, 1) := by decide +kernel
theorem dX4_init_98 : decode cX4_init 98 = .ok (.iinc 1 1, 3) := by decide +kernel
theorem dX4_init_101 : decode cX4_init 101 = .ok (.goto (-22), 3) := by decide +kernel
theorem dX4_init_104 : decode cX4_init 104 = .ok (.aload_n 0, 1) := by decide +kernel
theorem dX4_init_105 : decode cX4_init 105 = .ok (.getfield 21, 3) := by decide +kernel
theorem dX4_init_108 : decode cX4_init 108 = .ok (.iconst (-1), 1) := by decide +kernel
theorem dX4_init_109 : decode cX4_init 109 = .ok (.invokestatic 47, 3) := by decide +kernel
theorem dX4_init_112 : decode cX4_init 112 = .ok (.return_, 1) := by decide +kernel
set_option maxRecDepth 20000 in
theorem a_X4_init_104 {Q : Sg → Unit → Prop} {X : Sg → String → Prop} {th : Nat} (K : MD l R p s m args c cX4_init 2 RX4 D cA tys A n0 s0 2 32 []) (hQ : CQV p l e R s m args below meth c cX4_init D cA A n0 s0 QM σi Q) (hX : CX p l e R s m args below meth c 2 D cA A n0 s0 QM σi X) (hTh : CT p l e R s m args below meth c cX4_init 2 D cA A n0 s0 QM σi RX4 X) (hin9 : yX4_init.name = "<init>" → meth.name = "<init>") (hX0 : ∀ σ E, ¬ X σ E) : ∀ (σ : Sg), w_X4_init_104 th Q X σ → RG σ → TY σ → Ext σi σ → kO σ th 4 → JJ p l e R s m args below meth c 2 D cA A n0 s0 QM σ 104 [(0, .ref th)] [] := by
  intro σ h hGσ hYσ hE hth H locs ls hH hl hc
  have B := K.1
  have hl9 := K.2.2.2.2.2.2
  unfold w_X4_init_104 at h
  refine lv_aload_n B.1 B.2.1 dX4_init_104 rfl (lv_at hl 0 rfl) ?_
  refine f_getp B hH hth (by decide) rfl wu_X4 4 (by decide) wf_X4_21 rfl rfl dX4_init_105 ?_
  refine lv_iconst (v := i32 (-1)) B.1 B.2.1 dX4_init_108 (by decide) ?_
  refine W.eq (g2 := F0 m 109 ls [.int (i32 (-1)), va_rf (gP σ th 4)]) (rfl) ?_
  refine c_S B hH hl hc K.2.2.1 (As := [va_rf (gP σ th 4), .int (i32 (-1))]) (okC_J7_fill_53178 hl9 K.2.1 σ (gP σ th 4) (-1) (hYσ.get hth (by decide)) (by unfold rng; omega) hGσ hYσ h) wc_X4_47 2 hdC_J7_fill_53178 ⟨Nat.le_trans (Nat.le_of_ble_eq_true rfl) K.2.2.2.1, Nat.le_trans (Nat.le_of_ble_eq_true rfl) K.2.2.2.2.1⟩ rfl (rest := []) rfl (Nat.le_of_ble_eq_true rfl) dX4_init_109 (fun σ69 w hq => ?_) (fun σ9 E9 hx9 => hX σ9 E9 _ _ _ (tb_out K.2.2.2.2.2.1 rfl) hx9.1 hx9.2.1 hx9.2.2.1 (hE.trans hx9.2.2.2))
  obtain ⟨rfl, h, hGσ69, hYσ69, xσ69⟩ := hq
  have h := h xσ69
  intro H locs ls hH hl hc
  refine W.eq (g2 := F0 m 112 ls []) (rfl) ?_
  try dsimp only at h
  exact hQ _ _ _ _ _ dX4_init_112 hH hc h hGσ69 hYσ69 (hE.trans xσ69)
set_option maxRecDepth 20000 in
theorem a_X4_init_85 {Q : Sg → Unit → Prop} {X : Sg → String → Prop} {th : Nat} (K : MD l R p s m args c cX4_init 2 RX4 D cA tys A n0 s0 2 32 []) (hQ : CQV p l e R s m args below meth c cX4_init D cA A n0 s0 QM σi Q) (hX : CX p l e R s m args below meth c 2 D cA A n0 s0 QM σi X) (hTh : CT p l e R s m args below meth c cX4_init 2 D cA A n0 s0 QM σi RX4 X) (hin9 : yX4_init.name = "<init>" → meth.name = "<init>") (hX0 : ∀ σ E, ¬ X σ E) {K79 : Sg → Int → Prop} (hK79 : ∀ (σ : Sg) (v1 : Int) (g1 : rng v1), K79 σ v1 → RG σ → TY σ → Ext σi σ → kO σ th 4 → JJ p l e R s m args below meth c 2 D cA A n0 s0 QM σ 79 [(0, .ref th), (1, .int (i32 v1))] []) : ∀ (σ : Sg) (v1 : Int) (g1 : rng v1), w_X4_init_85 th K79 Q X σ v1 → RG σ → TY σ → Ext σi σ → kO σ th 4 → JJ p l e R s m args below meth c 2 D cA A n0 s0 QM σ 85 [(0, .ref th), (1, .int (i32 v1))] [] := by
  intro σ v1 g1 h hGσ hYσ hE hth H locs ls hH hl hc
  have B := K.1
  have hl9 := K.2.2.2.2.2.2
  unfold w_X4_init_85 at h
  refine lv_aload_n B.1 B.2.1 dX4_init_85 rfl (lv_at hl 0 rfl) ?_
  refine f_getp B hH hth (by decide) rfl wu_X4 0 (by decide) wf_X4_11 rfl rfl dX4_init_86 ?_
  refine lv_iload_n B.1 B.2.1 dX4_init_89 rfl (lv_at hl 1 rfl) ?_
  obtain ⟨zq70, h⟩ := h
  refine c_new B hH hc K.2.2.1 (ci := 5) rfl (by decide) wu_X5 tyX5 tyX5_ok (by decide) wn_X4_9 zq70 dX4_init_90 (fun q70 H hq70 hH hc => ?_)
  obtain ⟨σ71, eσ71⟩ : ∃ z, z = new1 σ q70 5 17 := ⟨_, rfl⟩
  have h := h q70 hq70 σ71 eσ71
  rw [← eσ71] at hH hc ⊢
  have hGσ71 : RG σ71 := by rw [eσ71]; exact hGσ.new1
  have hYσ71 : TY σ71 := by rw [eσ71]; exact hYσ.new1 hq70
  have xσ71 : Ext σ σ71 := by rw [eσ71]; exact Ext.new1 hq70
  have kq70 : kO σ71 q70 5 := by rw [eσ71]; exact kO.new1
  refine lv_dup B.1 B.2.1 dX4_init_93 rfl ?_
  refine W.eq (g2 := F0 m 94 ls [.ref q70, .ref q70, .int (i32 v1), va_rf (gP σ th 0)]) (rfl) ?_
  refine c_IN B hH hl hc K.2.2.1 (As := []) (ok_X5_init hl9 K.2.1 hX0 σ71 q70 kq70 hGσ71 hYσ71 h) (fun _ _ h9 => hX0 _ _ h9.1) (List.mem_of_getElem? (l := nmL) (i := 1) rfl) rfl wq_X5_init 0 hd_X5_init ⟨Nat.le_trans (Nat.le_of_ble_eq_true rfl) K.2.2.2.1, Nat.le_trans (Nat.le_of_ble_eq_true rfl) K.2.2.2.2.1⟩ rfl (rest := [.ref q70, .int (i32 v1), va_rf (gP σ th 0)]) rfl (by simp only [List.map_cons, List.map_nil, rf_cat]; exact Nat.le_of_ble_eq_true rfl) dX4_init_94 (fun σ72 w hq => ?_)
  obtain ⟨rfl, h, hGσ72, hYσ72, xσ72⟩ := hq
  have h := h xσ72
  intro H locs ls hH hl hc
  refine W.eq (g2 := F0 m 97 ls [.ref q70, .int (i32 v1), va_rf (gP σ th 0)]) (rfl) ?_
  try dsimp only at h
  obtain ⟨a73, ea73, h⟩ := h
  have ka73 : kO σ72 a73 115 := ((hYσ.get hth (by decide)).up (xσ71.trans xσ72)) a73 ea73
  have h := h ka73
  obtain ⟨q1, h⟩ := h
  obtain ⟨σ74, eσ74⟩ : ∃ z, z = pP σ72 a73 v1.toNat (some q70) := ⟨_, rfl⟩
  have h := h σ74 eσ74
  refine W.eq (g2 := F0 m 97 ls [.ref q70, .int (i32 v1), .ref a73]) (by rw [ea73]; rfl) ?_
  refine h_aast B hH ka73.1 (by decide) ka73.2 6 K.2.1.2.2.2.1 (kq70.up xσ72).1 (kq70.up xσ72).2 (by decide) rfl q1.1 q1.2 (hYσ72.2 _) dX4_init_97 (fun H locs hH => ?_)
  have hH : Hd D cA A s (pP σ72 a73 v1.toNat (some q70)) H locs := hH
  rw [← eσ74] at hH
  have hGσ74 : RG σ74 := by rw [eσ74]; exact hGσ72.pP
  have hYσ74 : TY σ74 := by rw [eσ74]; exact hYσ72.pP ka73 (d := 5) rfl (tyS1 (kq70.up xσ72))
  have xσ74 : Ext σ72 σ74 := by rw [eσ74]; exact Ext.pP
  have hc : CB n0 s0 σ74 := by rw [eσ74]; exact hc
  rw [show gc σ72 = gc σ74 by rw [eσ74]; try rfl, show gs σ72 = gs σ74 by rw [eσ74]; try rfl]
  obtain ⟨q2, h⟩ := h
  refine lv_iinc (k := 1) (v := i32 (v1 + 1)) (lv' := [(1, .int (i32 (v1 + 1))), (0, .ref th)]) B.1 B.2.1 dX4_init_98 hl rfl (i32_add _ _) (by decide) rfl (fun ls hl => ?_)
  refine lv_goto (tgt := 79) B.1 B.2.1 dX4_init_101 (by decide) ?_
  exact hK79 _ _ q2 h hGσ74 hYσ74 (((hE.trans xσ71).trans xσ72).trans xσ74) (hth.up (xσ71.trans (xσ72.trans xσ74))) _ _ _ hH (lv_sub (l' := [(0, .ref th), (1, .int (i32 (v1 + 1)))]) hl [1, 0] rfl) hc
set_option maxRecDepth 20000 in
theorem a_X4_init_79 {Q : Sg → Unit → Prop} {X : Sg → String → Prop} {th : Nat} (K : MD l R p s m args c cX4_init 2 RX4 D cA tys A n0 s0 2 32 []) (hQ : CQV p l e R s m args below meth c cX4_init D cA A n0 s0 QM σi Q) (hX : CX p l e R s m args below meth c 2 D cA A n0 s0 QM σi X) (hTh : CT p l e R s m args below meth c cX4_init 2 D cA A n0 s0 QM σi RX4 X) (hin9 : yX4_init.name = "<init>" → meth.name = "<init>") (hX0 : ∀ σ E, ¬ X σ E) {K79 : Sg → Int → Prop} (hK79 : ∀ (σ : Sg) (v1 : Int) (g1 : rng v1), K79 σ v1 → RG σ → TY σ → Ext σi σ → kO σ th 4 → JJ p l e R s m args below meth c 2 D cA A n0 s0 QM σ 79 [(0, .ref th), (1, .int (i32 v1))] []) : ∀ (σ : Sg) (v1 : Int) (g1 : rng v1), w_X4_init_79 th K79 Q X σ v1 → RG σ → TY σ → Ext σi σ → kO σ th 4 → JJ p l e R s m args below meth c 2 D cA A n0 s0 QM σ 79 [(0, .ref th), (1, .int (i32 v1))] [] := by
  intro σ v1 g1 h hGσ hYσ hE hth H locs ls hH hl hc
  have B := K.1
  have hl9 := K.2.2.2.2.2.2
  unfold w_X4_init_79 at h
  refine lv_iload_n B.1 B.2.1 dX4_init_79 rfl (lv_at hl 1 rfl) ?_
  refine lv_bipush (v := i32 16) B.1 B.2.1 dX4_init_80 (by decide) ?_
  refine lv_icmp_ge (tgt := 104) B.1 B.2.1 dX4_init_82 (by decide) (fun h9 => ?_) (fun h9 => ?_)
  · rw [if_pos ((i32_le (by unfold rng; omega) g1).mp h9)] at h
    exact a_X4_init_104 K hQ hX hTh hin9 hX0 _ h hGσ hYσ hE hth _ _ _ hH (lv_sub (l' := [(0, .ref th)]) hl [0] rfl) hc
  · rw [if_neg (fun q => h9 ((i32_le (by unfold rng; omega) g1).mpr q))] at h
    exact a_X4_init_85 K hQ hX hTh hin9 hX0 hK79 _ _ g1 h hGσ hYσ hE hth _ _ _ hH (lv_sub (l' := [(0, .ref th), (1, .int (i32 v1))]) hl [0, 1] rfl) hc
theorem al_X4_init_79 {Q : Sg → Unit → Prop} {X : Sg → String → Prop} {th : Nat} (K : MD l R p s m args c cX4_init 2 RX4 D cA tys A n0 s0 2 32 []) (hQ : CQV p l e R s m args below meth c cX4_init D cA A n0 s0 QM σi Q) (hX : CX p l e R s m args below meth c 2 D cA A n0 s0 QM σi X) (hTh : CT p l e R s m args below meth c cX4_init 2 D cA A n0 s0 QM σi RX4 X) (hin9 : yX4_init.name = "<init>" → meth.name = "<init>") (hX0 : ∀ σ E, ¬ X σ E) : ∀ (n : Nat), ∀ (σ : Sg) (v1 : Int) (g1 : rng v1), wl_X4_init_79 th Q X n σ v1 → RG σ → TY σ → Ext σi σ → kO σ th 4 → JJ p l e R s m args below meth c 2 D cA A n0 s0 QM σ 79 [(0, .ref th), (1, .int (i32 v1))] [] := by
  intro n
  induction n with
  | zero => intro σ v1 g1 h; exact h.elim
  | succ n ih => exact fun σ v1 g1 h => a_X4_init_79 K hQ hX hTh hin9 hX0 ih σ v1 g1 h
set_option maxRecDepth 20000 in
theorem a_X4_init_0 {Q : Sg → Unit → Prop} {X : Sg → String → Prop} {th : Nat} (K : MD l R p s m args c cX4_init 2 RX4 D cA tys A n0 s0 2 32 []) (hQ : CQV p l e R s m args below meth c cX4_init D cA A n0 s0 QM σi Q) (hX : CX p l e R s m args below meth c 2 D cA A n0 s0 QM σi X) (hTh : CT p l e R s m args below meth c cX4_init 2 D cA A n0 s0 QM σi RX4 X) (hin9 : yX4_init.name = "<init>" → meth.name = "<init>") (hX0 : ∀ σ E, ¬ X σ E) : ∀ (σ : Sg), w_X4_init_0 th Q X σ → RG σ → TY σ → Ext σi σ → kO σ th 4 → JJ p l e R s m args below meth c 2 D cA A n0 s0 QM σ 0 [(0, .ref th)] [] := by
  intro σ h hGσ hYσ hE hth H locs ls hH hl hc
  have B := K.1
  have hl9 := K.2.2.2.2.2.2
  unfold w_X4_init_0 at h
  refine lv_aload_n B.1 B.2.1 dX4_init_0 rfl (lv_at hl 0 rfl) ?_
  refine h_oinit B hl wo_X4_3 (by have := K.2.2.2.1; omega) (by have := K.2.2.2.2.1; omega) dX4_init_1 ?_
  refine lv_aload_n B.1 B.2.1 dX4_init_4 rfl (lv_at hl 0 rfl) ?_
  refine lv_bipush (v := i32 16) B.1 B.2.1 dX4_init_5 (by decide) ?_
  obtain ⟨zq75, h⟩ := h
  refine c_newR B hH hc K.2.2.1 (C := RX5) (k9 := 115) (t0 := 6) (by decide) K.2.1.2.2.2.1 (List.mem_of_getElem? (l := aoL) (i := 3) rfl) wx_X4_9 (n := (16 : Int)) ⟨(by omega), by have : gs σ + 16 ≤ 7000000 := zq75.2; omega⟩ zq75 dX4_init_7 (fun q75 H hq75 hH hc => ?_)
  obtain ⟨σ76, eσ76⟩ : ∃ z, z = newA σ q75 115 16 := ⟨_, rfl⟩
  have h := h q75 hq75 σ76 eσ76
  have hH : Hd D cA A s (newA σ q75 115 16) H locs := hH
  have hc : CB n0 s0 (newA σ q75 115 16) := hc
  show W p l e R s m args below meth c H locs (gc (newA σ q75 115 16) - n0) (gs (newA σ q75 115 16) - s0) QM _
  rw [← eσ76] at hH hc ⊢
  have hGσ76 : RG σ76 := by rw [eσ76]; exact hGσ.newA
  have hYσ76 : TY σ76 := by rw [eσ76]; exact hYσ.newA hq75 (by have : gs σ + 16 ≤ 7000000 := zq75.2; omega)
  have xσ76 : Ext σ σ76 := by rw [eσ76]; exact Ext.newA hq75
  have kq75 : kO σ76 q75 115 := by rw [eσ76]; exact kO.newA
  obtain ⟨σ77, eσ77⟩ : ∃ z, z = pP σ76 th 0 (some q75) := ⟨_, rfl⟩
  have h := h σ77 eσ77
  refine W.eq (g2 := F0 m 10 ls [va_rf (some q75), .ref th]) (rfl) ?_
  refine f_putF B hH (hth.up xσ76) (by decide) rfl wu_X4 tyX4 tyX4_ok nmX4 0 (by decide) wf_X4_11 rfl (r := (some q75)) (ty := .array (.object "StreamHouse$Op")) rfl (hin9 rfl) rfl rfl rfl (nrA _ _) (ftA _ _) dX4_init_10 (fun H locs hH => ?_)
  have hH : Hd D cA A s (pP σ76 th 0 (some q75)) H locs := hH
  rw [← eσ77] at hH
  have hGσ77 : RG σ77 := by rw [eσ77]; exact hGσ76.pP
  have hYσ77 : TY σ77 := by rw [eσ77]; exact hYσ76.pP (hth.up xσ76) (d := 115) (by decide) (tyS1 kq75)
  have xσ77 : Ext σ76 σ77 := by rw [eσ77]; exact Ext.pP
  have hc : CB n0 s0 σ77 := by rw [eσ77]; exact hc
  rw [show gc σ76 = gc σ77 by rw [eσ77]; try rfl, show gs σ76 = gs σ77 by rw [eσ77]; try rfl]
  refine lv_aload_n B.1 B.2.1 dX4_init_13 rfl (lv_at hl 0 rfl) ?_
  refine lv_iconst (v := i32 4) B.1 B.2.1 dX4_init_14 (by decide) ?_
  obtain ⟨zq78, h⟩ := h
  refine c_newI B K.2.1 hH hc K.2.2.1 wa_100 (n := (4 : Int)) ⟨(by omega), by have : gs σ77 + 4 ≤ 7000000 := zq78.2; omega⟩ zq78 dX4_init_15 (fun q78 H hq78 hH hc => ?_)
  obtain ⟨σ79, eσ79⟩ : ∃ z, z = newA σ77 q78 100 4 := ⟨_, rfl⟩
  have h := h q78 hq78 σ79 eσ79
  have hH : Hd D cA A s (newA σ77 q78 100 4) H locs := hH
  have hc : CB n0 s0 (newA σ77 q78 100 4) := hc
  show W p l e R s m args below meth c H locs (gc (newA σ77 q78 100 4) - n0) (gs (newA σ77 q78 100 4) - s0) QM _
  rw [← eσ79] at hH hc ⊢
  have hGσ79 : RG σ79 := by rw [eσ79]; exact hGσ77.newA
  have hYσ79 : TY σ79 := by rw [eσ79]; exact hYσ77.newA hq78 (by have : gs σ77 + 4 ≤ 7000000 := zq78.2; omega)
  have xσ79 : Ext σ77 σ79 := by rw [eσ79]; exact Ext.newA hq78
  have kq78 : kO σ79 q78 100 := by rw [eσ79]; exact kO.newA
  obtain ⟨σ80, eσ80⟩ : ∃ z, z = pP σ79 th 3 (some q78) := ⟨_, rfl⟩
  have h := h σ80 eσ80
  refine W.eq (g2 := F0 m 17 ls [va_rf (some q78), .ref th]) (rfl) ?_
  refine f_putF B hH (hth.up (xσ76.trans (xσ77.trans xσ79))) (by decide) rfl wu_X4 tyX4 tyX4_ok nmX4 3 (by decide) wf_X4_17 rfl (r := (some q78)) (ty := .array .int) rfl (hin9 rfl) rfl rfl rfl (nrA _ _) (ftA _ _) dX4_init_17 (fun H locs hH => ?_)
  have hH : Hd D cA A s (pP σ79 th 3 (some q78)) H locs := hH
  rw [← eσ80] at hH
  have hGσ80 : RG σ80 := by rw [eσ80]; exact hGσ79.pP
  have hYσ80 : TY σ80 := by rw [eσ80]; exact hYσ79.pP (hth.up (xσ76.trans (xσ77.trans xσ79))) (d := 100) (by decide) (tyS1 kq78)
  have xσ80 : Ext σ79 σ80 := by rw [eσ80]; exact Ext.pP
  have hc : CB n0 s0 σ80 := by rw [eσ80]; exact hc
  rw [show gc σ79 = gc σ80 by rw [eσ80]; try rfl, show gs σ79 = gs σ80 by rw [eσ80]; try rfl]
  refine lv_aload_n B.1 B.2.1 dX4_init_20 rfl (lv_at hl 0 rfl) ?_
  refine lv_iconst (v := i32 4) B.1 B.2.1 dX4_init_21 (by decide) ?_
  obtain ⟨zq81, h⟩ := h
  refine c_newI B K.2.1 hH hc K.2.2.1 wa_100 (n := (4 : Int)) ⟨(by omega), by have : gs σ80 + 4 ≤ 7000000 := zq81.2; omega⟩ zq81 dX4_init_22 (fun q81 H hq81 hH hc => ?_)
  obtain ⟨σ82, eσ82⟩ : ∃ z, z = newA σ80 q81 100 4 := ⟨_, rfl⟩
  have h := h q81 hq81 σ82 eσ82
  have hH : Hd D cA A s (newA σ80 q81 100 4) H locs := hH
  have hc : CB n0 s0 (newA σ80 q81 100 4) := hc
  show W p l e R s m args below meth c H locs (gc (newA σ80 q81 100 4) - n0) (gs (newA σ80 q81 100 4) - s0) QM _
  rw [← eσ82] at hH hc ⊢
  have hGσ82 : RG σ82 := by rw [eσ82]; exact hGσ80.newA
  have hYσ82 : TY σ82 := by rw [eσ82]; exact hYσ80.newA hq81 (by have : gs σ80 + 4 ≤ 7000000 := zq81.2; omega)
  have xσ82 : Ext σ80 σ82 := by rw [eσ82]; exact Ext.newA hq81
  have kq81 : kO σ82 q81 100 := by rw [eσ82]; exact kO.newA
  obtain ⟨σ83, eσ83⟩ : ∃ z, z = pP σ82 th 4 (some q81) := ⟨_, rfl⟩
  have h := h σ83 eσ83
  refine W.eq (g2 := F0 m 24 ls [va_rf (some q81), .ref th]) (rfl) ?_
  refine f_putF B hH (hth.up (xσ76.trans (xσ77.trans (xσ79.trans (xσ80.trans xσ82))))) (by decide) rfl wu_X4 tyX4 tyX4_ok nmX4 4 (by decide) wf_X4_21 rfl (r := (some q81)) (ty := .array .int) rfl (hin9 rfl) rfl rfl rfl (nrA _ _) (ftA _ _) dX4_init_24 (fun H locs hH => ?_)
  have hH : Hd D cA A s (pP σ82 th 4 (some q81)) H locs := hH
  rw [← eσ83] at hH
  have hGσ83 : RG σ83 := by rw [eσ83]; exact hGσ82.pP
  have hYσ83 : TY σ83 := by rw [eσ83]; exact hYσ82.pP (hth.up (xσ76.trans (xσ77.trans (xσ79.trans (xσ80.trans xσ82))))) (d := 100) (by decide) (tyS1 kq81)
  have xσ83 : Ext σ82 σ83 := by rw [eσ83]; exact Ext.pP
  have hc : CB n0 s0 σ83 := by rw [eσ83]; exact hc
  rw [show gc σ82 = gc σ83 by rw [eσ83]; try rfl, show gs σ82 = gs σ83 by rw [eσ83]; try rfl]
  refine lv_aload_n B.1 B.2.1 dX4_init_27 rfl (lv_at hl 0 rfl) ?_
  refine lv_bipush (v := i32 64) B.1 B.2.1 dX4_init_28 (by decide) ?_
  obtain ⟨zq84, h⟩ := h
  refine c_newI B K.2.1 hH hc K.2.2.1 wa_100 (n := (64 : Int)) ⟨(by omega), by have : gs σ83 + 64 ≤ 7000000 := zq84.2; omega⟩ zq84 dX4_init_30 (fun q84 H hq84 hH hc => ?_)
  obtain ⟨σ85, eσ85⟩ : ∃ z, z = newA σ83 q84 100 64 := ⟨_, rfl⟩
  have h := h q84 hq84 σ85 eσ85
  have hH : Hd D cA A s (newA σ83 q84 100 64) H locs := hH
  have hc : CB n0 s0 (newA σ83 q84 100 64) := hc
  show W p l e R s m args below meth c H locs (gc (newA σ83 q84 100 64) - n0) (gs (newA σ83 q84 100 64) - s0) QM _
  rw [← eσ85] at hH hc ⊢
  have hGσ85 : RG σ85 := by rw [eσ85]; exact hGσ83.newA
  have hYσ85 : TY σ85 := by rw [eσ85]; exact hYσ83.newA hq84 (by have : gs σ83 + 64 ≤ 7000000 := zq84.2; omega)
  have xσ85 : Ext σ83 σ85 := by rw [eσ85]; exact Ext.newA hq84
  have kq84 : kO σ85 q84 100 := by rw [eσ85]; exact kO.newA
  obtain ⟨σ86, eσ86⟩ : ∃ z, z = pP σ85 th 5 (some q84) := ⟨_, rfl⟩
  have h := h σ86 eσ86
  refine W.eq (g2 := F0 m 32 ls [va_rf (some q84), .ref th]) (rfl) ?_
  refine f_putp B hH (hth.up (xσ76.trans (xσ77.trans (xσ79.trans (xσ80.trans (xσ82.trans (xσ83.trans xσ85))))))) (by decide) rfl wu_X4 tyX4 tyX4_ok nmX4 5 (by decide) wf_X4_24 rfl (r := (some q84)) (ty := .array .int) rfl rfl rfl (nrA _ _) (ftA _ _) dX4_init_32 (fun H locs hH => ?_)
  have hH : Hd D cA A s (pP σ85 th 5 (some q84)) H locs := hH
  rw [← eσ86] at hH
  have hGσ86 : RG σ86 := by rw [eσ86]; exact hGσ85.pP
  have hYσ86 : TY σ86 := by rw [eσ86]; exact hYσ85.pP (hth.up (xσ76.trans (xσ77.trans (xσ79.trans (xσ80.trans (xσ82.trans (xσ83.trans xσ85))))))) (d := 100) (by decide) (tyS1 kq84)
  have xσ86 : Ext σ85 σ86 := by rw [eσ86]; exact Ext.pP
  have hc : CB n0 s0 σ86 := by rw [eσ86]; exact hc
  rw [show gc σ85 = gc σ86 by rw [eσ86]; try rfl, show gs σ85 = gs σ86 by rw [eσ86]; try rfl]
  refine lv_aload_n B.1 B.2.1 dX4_init_35 rfl (lv_at hl 0 rfl) ?_
  refine lv_bipush (v := i32 64) B.1 B.2.1 dX4_init_36 (by decide) ?_
  obtain ⟨zq87, h⟩ := h
  refine c_newJ B K.2.1 hH hc K.2.2.1 wa_101 (n := (64 : Int)) ⟨(by omega), by have : gs σ86 + 64 ≤ 7000000 := zq87.2; omega⟩ zq87 dX4_init_38 (fun q87 H hq87 hH hc => ?_)
  obtain ⟨σ88, eσ88⟩ : ∃ z, z = newA σ86 q87 101 64 := ⟨_, rfl⟩
  have h := h q87 hq87 σ88 eσ88
  have hH : Hd D cA A s (newA σ86 q87 101 64) H locs := hH
  have hc : CB n0 s0 (newA σ86 q87 101 64) := hc
  show W p l e R s m args below meth c H locs (gc (newA σ86 q87 101 64) - n0) (gs (newA σ86 q87 101 64) - s0) QM _
  rw [← eσ88] at hH hc ⊢
  have hGσ88 : RG σ88 := by rw [eσ88]; exact hGσ86.newA
  have hYσ88 : TY σ88 := by rw [eσ88]; exact hYσ86.newA hq87 (by have : gs σ86 + 64 ≤ 7000000 := zq87.2; omega)
  have xσ88 : Ext σ86 σ88 := by rw [eσ88]; exact Ext.newA hq87
  have kq87 : kO σ88 q87 101 := by rw [eσ88]; exact kO.newA
  obtain ⟨σ89, eσ89⟩ : ∃ z, z = pP σ88 th 6 (some q87) := ⟨_, rfl⟩
  have h := h σ89 eσ89
  refine W.eq (g2 := F0 m 40 ls [va_rf (some q87), .ref th]) (rfl) ?_
  refine f_putp B hH (hth.up (xσ76.trans (xσ77.trans (xσ79.trans (xσ80.trans (xσ82.trans (xσ83.trans (xσ85.trans (xσ86.trans xσ88))))))))) (by decide) rfl wu_X4 tyX4 tyX4_ok nmX4 6 (by decide) wf_X4_27 rfl (r := (some q87)) (ty := .array .long) rfl rfl rfl (nrA _ _) (ftA _ _) dX4_init_40 (fun H locs hH => ?_)
  have hH : Hd D cA A s (pP σ88 th 6 (some q87)) H locs := hH
  rw [← eσ89] at hH
  have hGσ89 : RG σ89 := by rw [eσ89]; exact hGσ88.pP
  have hYσ89 : TY σ89 := by rw [eσ89]; exact hYσ88.pP (hth.up (xσ76.trans (xσ77.trans (xσ79.trans (xσ80.trans (xσ82.trans (xσ83.trans (xσ85.trans (xσ86.trans xσ88))))))))) (d := 101) (by decide) (tyS1 kq87)
  have xσ89 : Ext σ88 σ89 := by rw [eσ89]; exact Ext.pP
  have hc : CB n0 s0 σ89 := by rw [eσ89]; exact hc
  rw [show gc σ88 = gc σ89 by rw [eσ89]; try rfl, show gs σ88 = gs σ89 by rw [eσ89]; try rfl]
  refine lv_aload_n B.1 B.2.1 dX4_init_43 rfl (lv_at hl 0 rfl) ?_
  refine lv_bipush (v := i32 64) B.1 B.2.1 dX4_init_44 (by decide) ?_
  obtain ⟨zq90, h⟩ := h
  refine c_newJ B K.2.1 hH hc K.2.2.1 wa_101 (n := (64 : Int)) ⟨(by omega), by have : gs σ89 + 64 ≤ 7000000 := zq90.2; omega⟩ zq90 dX4_init_46 (fun q90 H hq90 hH hc => ?_)
  obtain ⟨σ91, eσ91⟩ : ∃ z, z = newA σ89 q90 101 64 := ⟨_, rfl⟩
  have h := h q90 hq90 σ91 eσ91
  have hH : Hd D cA A s (newA σ89 q90 101 64) H locs := hH
  have hc : CB n0 s0 (newA σ89 q90 101 64) := hc
  show W p l e R s m args below meth c H locs (gc (newA σ89 q90 101 64) - n0) (gs (newA σ89 q90 101 64) - s0) QM _
  rw [← eσ91] at hH hc ⊢
  have hGσ91 : RG σ91 := by rw [eσ91]; exact hGσ89.newA
  have hYσ91 : TY σ91 := by rw [eσ91]; exact hYσ89.newA hq90 (by have : gs σ89 + 64 ≤ 7000000 := zq90.2; omega)
  have xσ91 : Ext σ89 σ91 := by rw [eσ91]; exact Ext.newA hq90
  have kq90 : kO σ91 q90 101 := by rw [eσ91]; exact kO.newA
  obtain ⟨σ92, eσ92⟩ : ∃ z, z = pP σ91 th 8 (some q90) := ⟨_, rfl⟩
  have h := h σ92 eσ92
  refine W.eq (g2 := F0 m 48 ls [va_rf (some q90), .ref th]) (rfl) ?_
  refine f_putF B hH (hth.up (xσ76.trans (xσ77.trans (xσ79.trans (xσ80.trans (xσ82.trans (xσ83.trans (xσ85.trans (xσ86.trans (xσ88.trans (xσ89.trans xσ91))))))))))) (by decide) rfl wu_X4 tyX4 tyX4_ok nmX4 8 (by decide) wf_X4_31 rfl (r := (some q90)) (ty := .array .long) rfl (hin9 rfl) rfl rfl rfl (nrA _ _) (ftA _ _) dX4_init_48 (fun H locs hH => ?_)
  have hH : Hd D cA A s (pP σ91 th 8 (some q90)) H locs := hH
  rw [← eσ92] at hH
  have hGσ92 : RG σ92 := by rw [eσ92]; exact hGσ91.pP
  have hYσ92 : TY σ92 := by rw [eσ92]; exact hYσ91.pP (hth.up (xσ76.trans (xσ77.trans (xσ79.trans (xσ80.trans (xσ82.trans (xσ83.trans (xσ85.trans (xσ86.trans (xσ88.trans (xσ89.trans xσ91))))))))))) (d := 101) (by decide) (tyS1 kq90)
  have xσ92 : Ext σ91 σ92 := by rw [eσ92]; exact Ext.pP
  have hc : CB n0 s0 σ92 := by rw [eσ92]; exact hc
  rw [show gc σ91 = gc σ92 by rw [eσ92]; try rfl, show gs σ91 = gs σ92 by rw [eσ92]; try rfl]
  refine lv_aload_n B.1 B.2.1 dX4_init_51 rfl (lv_at hl 0 rfl) ?_
  refine lv_iconst (v := i32 4) B.1 B.2.1 dX4_init_52 (by decide) ?_
  refine lv_sipush (v := i32 320) B.1 B.2.1 dX4_init_53 (by decide) ?_
  obtain ⟨zq93, h⟩ := h
  refine c_mna B K.2.1 hH hc K.2.2.1 wl_X4_34 wa_101 zq93 dX4_init_56 (fun q93 f94 H hq93 hH hc => ?_)
  obtain ⟨σ95, eσ95⟩ : ∃ z, z = mnaJ σ92 q93 f94 4 320 := ⟨_, rfl⟩
  have h := h q93 f94 hq93 σ95 eσ95
  rw [← eσ95] at hH hc ⊢
  have hGσ95 : RG σ95 := by rw [eσ95]; exact hGσ92.mna
  have hYσ95 : TY σ95 := by rw [eσ95]; exact hYσ92.mna hq93
  have xσ95 : Ext σ92 σ95 := by rw [eσ95]; exact Ext.mna hq93
  have kq93 : kO σ95 q93 200 := by rw [eσ95]; exact kO.mna
  obtain ⟨σ96, eσ96⟩ : ∃ z, z = pP σ95 th 11 (some q93) := ⟨_, rfl⟩
  have h := h σ96 eσ96
  refine W.eq (g2 := F0 m 60 ls [va_rf (some q93), .ref th]) (rfl) ?_
  refine f_putF B hH (hth.up (xσ76.trans (xσ77.trans (xσ79.trans (xσ80.trans (xσ82.trans (xσ83.trans (xσ85.trans (xσ86.trans (xσ88.trans (xσ89.trans (xσ91.trans (xσ92.trans xσ95))))))))))))) (by decide) rfl wu_X4 tyX4 tyX4_ok nmX4 11 (by decide) wf_X4_36 rfl (r := (some q93)) (ty := .array (.array .long)) rfl (hin9 rfl) rfl rfl rfl (nrA _ _) (ftA _ _) dX4_init_60 (fun H locs hH => ?_)
  have hH : Hd D cA A s (pP σ95 th 11 (some q93)) H locs := hH
  rw [← eσ96] at hH
  have hGσ96 : RG σ96 := by rw [eσ96]; exact hGσ95.pP
  have hYσ96 : TY σ96 := by rw [eσ96]; exact hYσ95.pP (hth.up (xσ76.trans (xσ77.trans (xσ79.trans (xσ80.trans (xσ82.trans (xσ83.trans (xσ85.trans (xσ86.trans (xσ88.trans (xσ89.trans (xσ91.trans (xσ92.trans xσ95))))))))))))) (d := 200) (by decide) (tyS1 kq93)
  have xσ96 : Ext σ95 σ96 := by rw [eσ96]; exact Ext.pP
  have hc : CB n0 s0 σ96 := by rw [eσ96]; exact hc
  rw [show gc σ95 = gc σ96 by rw [eσ96]; try rfl, show gs σ95 = gs σ96 by rw [eσ96]; try rfl]
  refine lv_aload_n B.1 B.2.1 dX4_init_63 rfl (lv_at hl 0 rfl) ?_
  refine lv_iconst (v := i32 4) B.1 B.2.1 dX4_init_64 (by decide) ?_
  obtain ⟨zq97, h⟩ := h
  refine c_newI B K.2.1 hH hc K.2.2.1 wa_100 (n := (4 : Int)) ⟨(by omega), by have : gs σ96 + 4 ≤ 7000000 := zq97.2; omega⟩ zq97 dX4_init_65 (fun q97 H hq97 hH hc => ?_)
  obtain ⟨σ98, eσ98⟩ : ∃ z, z = newA σ96 q97 100 4 := ⟨_, rfl⟩
  have h := h q97 hq97 σ98 eσ98
  have hH : Hd D cA A s (newA σ96 q97 100 4) H locs := hH
  have hc : CB n0 s0 (newA σ96 q97 100 4) := hc
  show W p l e R s m args below meth c H locs (gc (newA σ96 q97 100 4) - n0) (gs (newA σ96 q97 100 4) - s0) QM _
  rw [← eσ98] at hH hc ⊢
  have hGσ98 : RG σ98 := by rw [eσ98]; exact hGσ96.newA
  have hYσ98 : TY σ98 := by rw [eσ98]; exact hYσ96.newA hq97 (by have : gs σ96 + 4 ≤ 7000000 := zq97.2; omega)
  have xσ98 : Ext σ96 σ98 := by rw [eσ98]; exact Ext.newA hq97
  have kq97 : kO σ98 q97 100 := by rw [eσ98]; exact kO.newA
  obtain ⟨σ99, eσ99⟩ : ∃ z, z = pP σ98 th 12 (some q97) := ⟨_, rfl⟩
  have h := h σ99 eσ99
  refine W.eq (g2 := F0 m 67 ls [va_rf (some q97), .ref th]) (rfl) ?_
  refine f_putF B hH (hth.up (xσ76.trans (xσ77.trans (xσ79.trans (xσ80.trans (xσ82.trans (xσ83.trans (xσ85.trans (xσ86.trans (xσ88.trans (xσ89.trans (xσ91.trans (xσ92.trans (xσ95.trans (xσ96.trans xσ98))))))))))))))) (by decide) rfl wu_X4 tyX4 tyX4_ok nmX4 12 (by decide) wf_X4_39 rfl (r := (some q97)) (ty := .array .int) rfl (hin9 rfl) rfl rfl rfl (nrA _ _) (ftA _ _) dX4_init_67 (fun H locs hH => ?_)
  have hH : Hd D cA A s (pP σ98 th 12 (some q97)) H locs := hH
  rw [← eσ99] at hH
  have hGσ99 : RG σ99 := by rw [eσ99]; exact hGσ98.pP
  have hYσ99 : TY σ99 := by rw [eσ99]; exact hYσ98.pP (hth.up (xσ76.trans (xσ77.trans (xσ79.trans (xσ80.trans (xσ82.trans (xσ83.trans (xσ85.trans (xσ86.trans (xσ88.trans (xσ89.trans (xσ91.trans (xσ92.trans (xσ95.trans (xσ96.trans xσ98))))))))))))))) (d := 100) (by decide) (tyS1 kq97)
  have xσ99 : Ext σ98 σ99 := by rw [eσ99]; exact Ext.pP
  have hc : CB n0 s0 σ99 := by rw [eσ99]; exact hc
  rw [show gc σ98 = gc σ99 by rw [eσ99]; try rfl, show gs σ98 = gs σ99 by rw [eσ99]; try rfl]
  refine lv_aload_n B.1 B.2.1 dX4_init_70 rfl (lv_at hl 0 rfl) ?_
  refine lv_iconst (v := i32 4) B.1 B.2.1 dX4_init_71 (by decide) ?_
  obtain ⟨zq100, h⟩ := h
  refine c_newZ B K.2.1 hH hc K.2.2.1 wa_103 (n := (4 : Int)) ⟨(by omega), by have : gs σ99 + 4 ≤ 7000000 := zq100.2; omega⟩ zq100 dX4_init_72 (fun q100 H hq100 hH hc => ?_)
  obtain ⟨σ101, eσ101⟩ : ∃ z, z = newA σ99 q100 103 4 := ⟨_, rfl⟩
  have h := h q100 hq100 σ101 eσ101
  have hH : Hd D cA A s (newA σ99 q100 103 4) H locs := hH
  have hc : CB n0 s0 (newA σ99 q100 103 4) := hc
  show W p l e R s m args below meth c H locs (gc (newA σ99 q100 103 4) - n0) (gs (newA σ99 q100 103 4) - s0) QM _
  rw [← eσ101] at hH hc ⊢
  have hGσ101 : RG σ101 := by rw [eσ101]; exact hGσ99.newA
  have hYσ101 : TY σ101 := by rw [eσ101]; exact hYσ99.newA hq100 (by have : gs σ99 + 4 ≤ 7000000 := zq100.2; omega)
  have xσ101 : Ext σ99 σ101 := by rw [eσ101]; exact Ext.newA hq100
  have kq100 : kO σ101 q100 103 := by rw [eσ101]; exact kO.newA
  obtain ⟨σ102, eσ102⟩ : ∃ z, z = pP σ101 th 13 (some q100) := ⟨_, rfl⟩
  have h := h σ102 eσ102
  refine W.eq (g2 := F0 m 74 ls [va_rf (some q100), .ref th]) (rfl) ?_
  refine f_putF B hH (hth.up (xσ76.trans (xσ77.trans (xσ79.trans (xσ80.trans (xσ82.trans (xσ83.trans (xσ85.trans (xσ86.trans (xσ88.trans (xσ89.trans (xσ91.trans (xσ92.trans (xσ95.trans (xσ96.trans (xσ98.trans (xσ99.trans xσ101))))))))))))))))) (by decide) rfl wu_X4 tyX4 tyX4_ok nmX4 13 (by decide) wf_X4_42 rfl (r := (some q100)) (ty := .array .boolean) rfl (hin9 rfl) rfl rfl rfl (nrA _ _) (ftA _ _) dX4_init_74 (fun H locs hH => ?_)
  have hH : Hd D cA A s (pP σ101 th 13 (some q100)) H locs := hH
  rw [← eσ102] at hH
  have hGσ102 : RG σ102 := by rw [eσ102]; exact hGσ101.pP
  have hYσ102 : TY σ102 := by rw [eσ102]; exact hYσ101.pP (hth.up (xσ76.trans (xσ77.trans (xσ79.trans (xσ80.trans (xσ82.trans (xσ83.trans (xσ85.trans (xσ86.trans (xσ88.trans (xσ89.trans (xσ91.trans (xσ92.trans (xσ95.trans (xσ96.trans (xσ98.trans (xσ99.trans xσ101))))))))))))))))) (d := 103) (by decide) (tyS1 kq100)
  have xσ102 : Ext σ101 σ102 := by rw [eσ102]; exact Ext.pP
  have hc : CB n0 s0 σ102 := by rw [eσ102]; exact hc
  rw [show gc σ101 = gc σ102 by rw [eσ102]; try rfl, show gs σ101 = gs σ102 by rw [eσ102]; try rfl]
  refine lv_iconst (v := i32 0) B.1 B.2.1 dX4_init_77 (by decide) ?_
  refine lv_istore_n (lv' := [(1, .int (i32 0)), (0, .ref th)]) B.1 B.2.1 dX4_init_78 rfl hl (by decide) rfl (fun ls hl => ?_)
  obtain ⟨n9, h⟩ := h
  exact al_X4_init_79 K hQ hX hTh hin9 hX0 n9 _ _ (by unfold rng; omega) h hGσ102 hYσ102 ((((((((((((((((((hE.trans xσ76).trans xσ77).trans xσ79).trans xσ80).trans xσ82).trans xσ83).trans xσ85).trans xσ86).trans xσ88).trans xσ89).trans xσ91).trans xσ92).trans xσ95).trans xσ96).trans xσ98).trans xσ99).trans xσ101).trans xσ102) (hth.up (xσ76.trans (xσ77.trans (xσ79.trans (xσ80.trans (xσ82.trans (xσ83.trans (xσ85.trans (xσ86.trans (xσ88.trans (xσ89.trans (xσ91.trans (xσ92.trans (xσ95.trans (xσ96.trans (xσ98.trans (xσ99.trans (xσ101.trans xσ102)))))))))))))))))) _ _ _ hH (lv_sub (l' := [(0, .ref th), (1, .int (i32 0))]) hl [1, 0] rfl) hc
theorem ok_X4_init (hl0 : l.stackTraces = false) (hT : TyC cA tys) {Q : Sg → Unit → Prop} {X : Sg → String → Prop} (hX0 : ∀ σ E, ¬ X σ E) (σ : Sg) (th : Nat) (hth : kO σ th 4) (hG : RG σ) (hY : TY σ) (h : wp_X4_init th σ Q X) : Ok l D cA tys A yX4_init (.code yX4_init cX4_init 2 none) 2 32 [.ref th] σ (QcV σ Q) (QxC σ X) := by
  unfold wp_X4_init at h
  exact oc_V hl0 (by decide) (by exact Nat.le_of_ble_eq_true rfl) hT (fun p e R s m args below meth c K hQ hX hTh hin9 H locs ls hH hl hc => a_X4_init_0 K hQ hX hTh hin9 hX0 σ h hG hY (Ext.rfl' σ) hth H locs ls hH (lv_sub (l' := [(0, .ref th)]) hl [0] rfl) hc)
theorem dX6_init_0 : decode cX6_init 0 = .ok (.aload_n 0, 1) := by decide +kernel
theorem dX6_init_1 : decode cX6_init 1 = .ok (.invokespecial 3, 3) := by decide +kernel
theorem dX6_init_4 : decode cX6_init 4 = .ok (.aload_n 0, 1) := by decide +kernel
theorem dX6_init_5 : decode cX6_init 5 = .ok (.iconst 0, 1) := by decide +kernel
theorem dX6_init_6 : decode cX6_init 6 = .ok (.newarray .byte, 2) := by decide +kernel
theorem dX6_init_8 : decode cX6_init 8 = .ok (.putfield 9, 3) := by decide +kernel
theorem dX6_init_11 : decode cX6_init 11 = .ok (.return_, 1) := by decide +kernel
set_option maxRecDepth 20000 in
theorem a_X6_init_0 {Q : Sg → Unit → Prop} {X : Sg → String → Prop} {th : Nat} (K : MD l R p s m args c cX6_init 1 RX6 D cA tys A n0 s0 1 12 []) (hQ : CQV p l e R s m args below meth c cX6_init D cA A n0 s0 QM σi Q) (hX : CX p l e R s m args below meth c 1 D cA A n0 s0 QM σi X) (hTh : CT p l e R s m args below meth c cX6_init 1 D cA A n0 s0 QM σi RX6 X) (hin9 : yX6_init.name = "<init>" → meth.name = "<init>") (hX0 : ∀ σ E, ¬ X σ E) : ∀ (σ : Sg), w_X6_init_0 th Q X σ → RG σ → TY σ → Ext σi σ → kO σ th 6 → JJ p l e R s m args below meth c 1 D cA A n0 s0 QM σ 0 [(0, .ref th)] [] := by
  intro σ h hGσ hYσ hE hth H locs ls hH hl hc
  have B := K.1
  have hl9 := K.2.2.2.2.2.2
  unfold w_X6_init_0 at h
  refine lv_aload_n B.1 B.2.1 dX6_init_0 rfl (lv_at hl 0 rfl) ?_
  refine h_oinit B hl wo_X6_3 (by have := K.2.2.2.1; omega) (by have := K.2.2.2.2.1; omega) dX6_init_1 ?_
  refine lv_aload_n B.1 B.2.1 dX6_init_4 rfl (lv_at hl 0 rfl) ?_
  refine lv_iconst (v := i32 0) B.1 B.2.1 dX6_init_5 (by decide) ?_
  obtain ⟨zq7, h⟩ := h
  refine c_newB B K.2.1 hH hc K.2.2.1 wa_102 (n := (0 : Int)) ⟨(by omega), by have : gs σ + 0 ≤ 7000000 := zq7.2; omega⟩ zq7 dX6_init_6 (fun q7 H hq7 hH hc => ?_)
  obtain ⟨σ8, eσ8⟩ : ∃ z, z = newA σ q7 102 0 := ⟨_, rfl⟩
  have h := h q7 hq7 σ8 eσ8
  have hH : Hd D cA A s (newA σ q7 102 0) H locs := hH
  have hc : CB n0 s0 (newA σ q7 102 0) := hc
  show W p l e R s m args below meth c H locs (gc (newA σ q7 102 0) - n0) (gs (newA σ q7 102 0) - s0) QM _
  rw [← eσ8] at hH hc ⊢
  have hGσ8 : RG σ8 := by rw [eσ8]; exact hGσ.newA
  have hYσ8 : TY σ8 := by rw [eσ8]; exact hYσ.newA hq7 (by have : gs σ + 0 ≤ 7000000 := zq7.2; omega)
  have xσ8 : Ext σ σ8 := by rw [eσ8]; exact Ext.newA hq7
  have kq7 : kO σ8 q7 102 := by rw [eσ8]; exact kO.newA
  obtain ⟨σ9, eσ9⟩ : ∃ z, z = pP σ8 th 0 (some q7) := ⟨_, rfl⟩
  have h := h σ9 eσ9
  refine W.eq (g2 := F0 m 8 ls [va_rf (some q7), .ref th]) (rfl) ?_
  refine f_putp B hH (hth.up xσ8) (by decide) rfl wu_X6 tyX6 tyX6_ok nmX6 0 (by decide) wf_X6_9 rfl (r := (some q7)) (ty := .array .byte) rfl rfl rfl (nrA _ _) (ftA _ _) dX6_init_8 (fun H locs hH => ?_)
  have hH : Hd D cA A s (pP σ8 th 0 (some q7)) H locs := hH
  rw [← eσ9] at hH
  have hGσ9 : RG σ9 := by rw [eσ9]; exact hGσ8.pP
  have hYσ9 : TY σ9 := by rw [eσ9]; exact hYσ8.pP (hth.up xσ8) (d := 102) (by decide) (tyS1 kq7)
  have xσ9 : Ext σ8 σ9 := by rw [eσ9]; exact Ext.pP
  have hc : CB n0 s0 σ9 := by rw [eσ9]; exact hc
  rw [show gc σ8 = gc σ9 by rw [eσ9]; try rfl, show gs σ8 = gs σ9 by rw [eσ9]; try rfl]
  exact hQ _ _ _ _ _ dX6_init_11 hH hc h hGσ9 hYσ9 ((hE.trans xσ8).trans xσ9)
theorem ok_X6_init (hl0 : l.stackTraces = false) (hT : TyC cA tys) {Q : Sg → Unit → Prop} {X : Sg → String → Prop} (hX0 : ∀ σ E, ¬ X σ E) (σ : Sg) (th : Nat) (hth : kO σ th 6) (hG : RG σ) (hY : TY σ) (h : wp_X6_init th σ Q X) : Ok l D cA tys A yX6_init (.code yX6_init cX6_init 1 none) 1 12 [.ref th] σ (QcV σ Q) (QxC σ X) := by
  unfold wp_X6_init at h
  exact oc_V hl0 (by decide) (by exact Nat.le_of_ble_eq_true rfl) hT (fun p e R s m args below meth c K hQ hX hTh hin9 H locs ls hH hl hc => a_X6_init_0 K hQ hX hTh hin9 hX0 σ h hG hY (Ext.rfl' σ) hth H locs ls hH (lv_sub (l' := [(0, .ref th)]) hl [0] rfl) hc)
theorem dX12_newChains_0 : decode cX12_newChains 0 = .ok (.iconst 0, 1) := by decide +kernel
theorem dX12_newChains_1 : decode cX12_newChains 1 = .ok (.iload_n 0, 1) := by decide +kernel
theorem dX12_newChains_2 : decode cX12_newChains 2 = .ok (.invokestatic 267, 3) := by decide +kernel
theorem dX12_newChains_5 : decode cX12_newChains 5 = .ok (.anewarray 180, 3) := by decide +kernel
theorem dX12_newChains_8 : decode cX12_newChains 8 = .ok (.astore_n 1, 1) := by decide +kernel
theorem dX12_newChains_9 : decode cX12_newChains 9 = .ok (.iconst 0, 1) := by decide +kernel
theorem dX12_newChains_10 : decode cX12_newChains 10 = .ok (.istore_n 2, 1) := by decide +kernel
theorem dX12_newChains_11 : decode cX12_newChains 11 = .ok (.iload_n 2, 1) := by decide +kernel
theorem dX12_newChains_12 : decode cX12_newChains 12 = .ok (.aload_n 1, 1) := by decide +kernel
theorem dX12_newChains_13 : decode cX12_newChains 13 = .ok (.arraylength, 1) := by decide +kernel
theorem dX12_newChains_14 : decode cX12_newChains 14 = .ok (.if_icmp .ge 19, 3) := by decide +kernel
theorem dX12_newChains_17 : decode cX12_newChains 17 = .ok (.aload_n 1, 1) := by decide +kernel
theorem dX12_newChains_18 : decode cX12_newChains 18 = .ok (.iload_n 2, 1) := by decide +kernel
theorem dX12_newChains_19 : decode cX12_newChains 19 = .ok (.new 180, 3) := by decide +kernel
theorem dX12_newChains_22 : decode cX12_newChains 22 = .ok (.dup, 1) := by decide +kernel
theorem dX12_newChains_23 : decode cX12_newChains 23 = .ok (.invokespecial 272, 3) := by decide +kernel
theorem dX12_newChains_26 : decode cX12_newChains 26 = .ok (.aastore, 1) := by decide +kernel
theorem dX12_newChains_27 : decode cX12_newChains 27 = .ok (.iinc 2 1, 3) := by decide +kernel
theorem dX12_newChains_30 : decode cX12_newChains 30 = .ok (.goto (-19), 3) := by decide +kernel
theorem dX12_newChains_33 : decode cX12_newChains 33 = .ok (.aload_n 1, 1) := by decide +kernel
theorem dX12_newChains_34 : decode cX12_newChains 34 = .ok (.areturn, 1) := by decide +kernel
set_option maxRecDepth 20000 in
theorem a_X12_newChains_33 {Q : Sg → Option Nat → Prop} {X : Sg → String → Prop} (K : MD l R p s m args c cX12_newChains 3 RX12 D cA tys A n0 s0 2 32 []) (hQ : CQA p l e R s m args below meth c cX12_newChains D cA A n0 s0 QM σi 111 Q) (hX : CX p l e R s m args below meth c 3 D cA A n0 s0 QM σi X) (hTh : CT p l e R s m args below meth c cX12_newChains 3 D cA A n0 s0 QM σi RX12 X) (hX0 : ∀ σ E, ¬ X σ E) : ∀ (σ : Sg) (v1 : Option Nat) (g1 : tyV σ 111 v1), w_X12_newChains_33 Q X σ v1 → RG σ → TY σ → Ext σi σ → JJ p l e R s m args below meth c 3 D cA A n0 s0 QM σ 33 [(1, va_rf v1)] [] := by
  intro σ v1 g1 h hGσ hYσ hE H locs ls hH hl hc
  have B := K.1
  have hl9 := K.2.2.2.2.2.2
  unfold w_X12_newChains_33 at h
  refine lv_aload_nQ B.1 B.2.1 dX12_newChains_33 rfl (lv_at hl 0 rfl) ?_
  exact hQ _ _ _ _ _ _ g1 dX12_newChains_34 hH hc h hGσ hYσ hE
set_option maxRecDepth 20000 in
theorem a_X12_newChains_17 {Q : Sg → Option Nat → Prop} {X : Sg → String → Prop} (K : MD l R p s m args c cX12_newChains 3 RX12 D cA tys A n0 s0 2 32 []) (hQ : CQA p l e R s m args below meth c cX12_newChains D cA A n0 s0 QM σi 111 Q) (hX : CX p l e R s m args below meth c 3 D cA A n0 s0 QM σi X) (hTh : CT p l e R s m args below meth c cX12_newChains 3 D cA A n0 s0 QM σi RX12 X) (hX0 : ∀ σ E, ¬ X σ E) {K11 : Sg → Option Nat → Int → Prop} (hK11 : ∀ (σ : Sg) (v1 : Option Nat) (v2 : Int) (g1 : tyV σ 111 v1) (g2 : rng v2), K11 σ v1 v2 → RG σ → TY σ → Ext σi σ → JJ p l e R s m args below meth c 3 D cA A n0 s0 QM σ 11 [(1, va_rf v1), (2, .int (i32 v2))] []) : ∀ (σ : Sg) (v1 : Option Nat) (v2 : Int) (g1 : tyV σ 111 v1) (g2 : rng v2), w_X12_newChains_17 K11 Q X σ v1 v2 → RG σ → TY σ → Ext σi σ → JJ p l e R s m args below meth c 3 D cA A n0 s0 QM σ 17 [(1, va_rf v1), (2, .int (i32 v2))] [] := by
  intro σ v1 v2 g1 g2 h hGσ hYσ hE H locs ls hH hl hc
  have B := K.1
  have hl9 := K.2.2.2.2.2.2
  unfold w_X12_newChains_17 at h
  refine lv_aload_nQ B.1 B.2.1 dX12_newChains_17 rfl (lv_at hl 0 rfl) ?_
  refine lv_iload_n B.1 B.2.1 dX12_newChains_18 rfl (lv_at hl 1 rfl) ?_
  obtain ⟨zq21, h⟩ := h
  refine c_new B hH hc K.2.2.1 (ci := 1) rfl (by decide) wu_X1 tyX1 tyX1_ok (by decide) wn_X12_180 zq21 dX12_newChains_19 (fun q21 H hq21 hH hc => ?_)
  obtain ⟨σ22, eσ22⟩ : ∃ z, z = new1 σ q21 1 3 := ⟨_, rfl⟩
  have h := h q21 hq21 σ22 eσ22
  rw [← eσ22] at hH hc ⊢
  have hGσ22 : RG σ22 := by rw [eσ22]; exact hGσ.new1
  have hYσ22 : TY σ22 := by rw [eσ22]; exact hYσ.new1 hq21
  have xσ22 : Ext σ σ22 := by rw [eσ22]; exact Ext.new1 hq21
  have kq21 : kO σ22 q21 1 := by rw [eσ22]; exact kO.new1
  refine lv_dup B.1 B.2.1 dX12_newChains_22 rfl ?_
  refine W.eq (g2 := F0 m 23 ls [.ref q21, .ref q21, .int (i32 v2), va_rf v1]) (rfl) ?_
  refine c_IN B hH hl hc K.2.2.1 (As := []) (ok_X1_init hl9 K.2.1 σ22 q21 kq21 hGσ22 hYσ22 (nx_X1_init h)) (fun _ _ h9 => h9.1) (List.mem_of_getElem? (l := nmL) (i := 5) rfl) rfl wq_X1_init 0 hd_X1_init ⟨Nat.le_trans (Nat.le_of_ble_eq_true rfl) K.2.2.2.1, Nat.le_trans (Nat.le_of_ble_eq_true rfl) K.2.2.2.2.1⟩ rfl (rest := [.ref q21, .int (i32 v2), va_rf v1]) rfl (by simp only [List.map_cons, List.map_nil, rf_cat]; exact Nat.le_of_ble_eq_true rfl) dX12_newChains_23 (fun σ23 w hq => ?_)
  obtain ⟨rfl, h, hGσ23, hYσ23, xσ23⟩ := hq
  have h := h xσ23
  intro H locs ls hH hl hc
  refine W.eq (g2 := F0 m 26 ls [.ref q21, .int (i32 v2), va_rf v1]) (rfl) ?_
  try dsimp only at h
  obtain ⟨a24, ea24, h⟩ := h
  have ka24 : kO σ23 a24 111 := (g1.up (xσ22.trans xσ23)) a24 ea24
  have h := h ka24
  obtain ⟨q1, h⟩ := h
  obtain ⟨σ25, eσ25⟩ : ∃ z, z = pP σ23 a24 v2.toNat (some q21) := ⟨_, rfl⟩
  have h := h σ25 eσ25
  refine W.eq (g2 := F0 m 26 ls [.ref q21, .int (i32 v2), .ref a24]) (by rw [ea24]; rfl) ?_
  refine h_aast B hH ka24.1 (by decide) ka24.2 4 K.2.1.2.1 (kq21.up xσ23).1 (kq21.up xσ23).2 (by decide) rfl q1.1 q1.2 (hYσ23.2 _) dX12_newChains_26 (fun H locs hH => ?_)
  have hH : Hd D cA A s (pP σ23 a24 v2.toNat (some q21)) H locs := hH
  rw [← eσ25] at hH
  have hGσ25 : RG σ25 := by rw [eσ25]; exact hGσ23.pP
  have hYσ25 : TY σ25 := by rw [eσ25]; exact hYσ23.pP ka24 (d := 1) rfl (tyS1 (kq21.up xσ23))
  have xσ25 : Ext σ23 σ25 := by rw [eσ25]; exact Ext.pP
  have hc : CB n0 s0 σ25 := by rw [eσ25]; exact hc
  rw [show gc σ23 = gc σ25 by rw [eσ25]; try rfl, show gs σ23 = gs σ25 by rw [eσ25]; try rfl]
  obtain ⟨q2, h⟩ := h
  refine lv_iinc (k := 1) (v := i32 (v2 + 1)) (lv' := [(2, .int (i32 (v2 + 1))), (1, va_rf v1)]) B.1 B.2.1 dX12_newChains_27 hl rfl (i32_add _ _) (by decide) (by generalize v1 = w9; cases w9 <;> rfl) (fun ls hl => ?_)
  refine lv_goto (tgt := 11) B.1 B.2.1 dX12_newChains_30 (by decide) ?_
  exact hK11 _ _ _ (g1.up (xσ22.trans (xσ23.trans xσ25))) q2 h hGσ25 hYσ25 (((hE.trans xσ22).trans xσ23).trans xσ25) _ _ _ hH (lv_sub (l' := [(1, va_rf v1), (2, .int (i32 (v2 + 1)))]) hl [1, 0] rfl) hc
set_option maxRecDepth 20000 in
theorem a_X12_newChains_11 {Q : Sg → Option Nat → Prop} {X : Sg → String → Prop} (K : MD l R p s m args c cX12_newChains 3 RX12 D cA tys A n0 s0 2 32 []) (hQ : CQA p l e R s m args below meth c cX12_newChains D cA A n0 s0 QM σi 111 Q) (hX : CX p l e R s m args below meth c 3 D cA A n0 s0 QM σi X) (hTh : CT p l e R s m args below meth c cX12_newChains 3 D cA A n0 s0 QM σi RX12 X) (hX0 : ∀ σ E, ¬ X σ E) {K11 : Sg → Option Nat → Int → Prop} (hK11 : ∀ (σ : Sg) (v1 : Option Nat) (v2 : Int) (g1 : tyV σ 111 v1) (g2 : rng v2), K11 σ v1 v2 → RG σ → TY σ → Ext σi σ → JJ p l e R s m args below meth c 3 D cA A n0 s0 QM σ 11 [(1, va_rf v1), (2, .int (i32 v2))] []) : ∀ (σ : Sg) (v1 : Option Nat) (v2 : Int) (g1 : tyV σ 111 v1) (g2 : rng v2), w_X12_newChains_11 K11 Q X σ v1 v2 → RG σ → TY σ → Ext σi σ → JJ p l e R s m args below meth c 3 D cA A n0 s0 QM σ 11 [(1, va_rf v1), (2, .int (i32 v2))] [] := by
  intro σ v1 v2 g1 g2 h hGσ hYσ hE H locs ls hH hl hc
  have B := K.1
  have hl9 := K.2.2.2.2.2.2
  unfold w_X12_newChains_11 at h
  refine lv_iload_n B.1 B.2.1 dX12_newChains_11 rfl (lv_at hl 1 rfl) ?_
  refine lv_aload_nQ B.1 B.2.1 dX12_newChains_12 rfl (lv_at hl 0 rfl) ?_
  obtain ⟨a26, ea26, h⟩ := h
  have ka26 : kO σ a26 111 := g1 a26 ea26
  have h := h ka26
  refine W.eq (g2 := F0 m 13 ls [.ref a26, .int (i32 v2)]) (by rw [ea26]; rfl) ?_
  refine h_alen B hH ka26.1 (by decide) ka26.2 4 K.2.1.2.1 dX12_newChains_13 ?_
  refine lv_icmp_ge (tgt := 33) B.1 B.2.1 dX12_newChains_14 (by decide) (fun h9 => ?_) (fun h9 => ?_)
  · rw [if_pos ((i32_le (rng_gn (hYσ.2 _)) g2).mp h9)] at h
    exact a_X12_newChains_33 K hQ hX hTh hX0 _ _ g1 h hGσ hYσ hE _ _ _ hH (lv_sub (l' := [(1, va_rf v1)]) hl [0] rfl) hc
  · rw [if_neg (fun q => h9 ((i32_le (rng_gn (hYσ.2 _)) g2).mpr q))] at h
    exact a_X12_newChains_17 K hQ hX hTh hX0 hK11 _ _ _ g1 g2 h hGσ hYσ hE _ _ _ hH (lv_sub (l' := [(1, va_rf v1), (2, .int (i32 v2))]) hl [0, 1] rfl) hc
theorem al_X12_newChains_11 {Q : Sg → Option Nat → Prop} {X : Sg → String → Prop} (K : MD l R p s m args c cX12_newChains 3 RX12 D cA tys A n0 s0 2 32 []) (hQ : CQA p l e R s m args below meth c cX12_newChains D cA A n0 s0 QM σi 111 Q) (hX : CX p l e R s m args below meth c 3 D cA A n0 s0 QM σi X) (hTh : CT p l e R s m args below meth c cX12_newChains 3 D cA A n0 s0 QM σi RX12 X) (hX0 : ∀ σ E, ¬ X σ E) : ∀ (n : Nat), ∀ (σ : Sg) (v1 : Option Nat) (v2 : Int) (g1 : tyV σ 111 v1) (g2 : rng v2), wl_X12_newChains_11 Q X n σ v1 v2 → RG σ → TY σ → Ext σi σ → JJ p l e R s m args below meth c 3 D cA A n0 s0 QM σ 11 [(1, va_rf v1), (2, .int (i32 v2))] [] := by
  intro n
  induction n with
  | zero => intro σ v1 v2 g1 g2 h; exact h.elim
  | succ n ih => exact fun σ v1 v2 g1 g2 h => a_X12_newChains_11 K hQ hX hTh hX0 ih σ v1 v2 g1 g2 h
set_option maxRecDepth 20000 in
theorem a_X12_newChains_0 {Q : Sg → Option Nat → Prop} {X : Sg → String → Prop} (K : MD l R p s m args c cX12_newChains 3 RX12 D cA tys A n0 s0 2 32 []) (hQ : CQA p l e R s m args below meth c cX12_newChains D cA A n0 s0 QM σi 111 Q) (hX : CX p l e R s m args below meth c 3 D cA A n0 s0 QM σi X) (hTh : CT p l e R s m args below meth c cX12_newChains 3 D cA A n0 s0 QM σi RX12 X) (hX0 : ∀ σ E, ¬ X σ E) : ∀ (σ : Sg) (v0 : Int) (g0 : rng v0), w_X12_newChains_0 Q X σ v0 → RG σ → TY σ → Ext σi σ → JJ p l e R s m args below meth c 3 D cA A n0 s0 QM σ 0 [(0, .int (i32 v0))] [] := by
  intro σ v0 g0 h hGσ hYσ hE H locs ls hH hl hc
  have B := K.1
  have hl9 := K.2.2.2.2.2.2
  unfold w_X12_newChains_0 at h
  refine lv_iconst (v := i32 0) B.1 B.2.1 dX12_newChains_0 (by decide) ?_
  refine lv_iload_n B.1 B.2.1 dX12_newChains_1 rfl (lv_at hl 0 rfl) ?_
  refine c_S B hH hl hc K.2.2.1 (As := [.int (i32 0), .int (i32 v0)]) (okC_J9_max_7cf53 hl9 K.2.1 σ 0 v0 (by unfold rng; omega) g0 hGσ hYσ h) wc_X12_267 2 hdC_J9_max_7cf53 ⟨Nat.le_trans (Nat.le_of_ble_eq_true rfl) K.2.2.2.1, Nat.le_trans (Nat.le_of_ble_eq_true rfl) K.2.2.2.2.1⟩ rfl (rest := []) rfl (Nat.le_of_ble_eq_true rfl) dX12_newChains_2 (fun σ27 w hq => ?_) (fun σ9 E9 hx9 => hX σ9 E9 _ _ _ (tb_out K.2.2.2.2.2.1 rfl) hx9.1 hx9.2.1 hx9.2.2.1 (hE.trans hx9.2.2.2))
  obtain ⟨r28, rfl, gr28, h, hGσ27, hYσ27, xσ27⟩ := hq
  have h := h xσ27
  intro H locs ls hH hl hc
  refine W.eq (g2 := F0 m 5 ls [.int (i32 r28)]) (rfl) ?_
  try dsimp only at h
  obtain ⟨lz9, h⟩ := h
  obtain ⟨zq29, h⟩ := h
  refine c_newR B hH hc K.2.2.1 (C := RX1) (k9 := 111) (t0 := 4) (by decide) K.2.1.2.1 (List.mem_of_getElem? (l := aoL) (i := 2) rfl) wx_X12_180 (n := r28) ⟨lz9, by have : gs σ27 + r28.toNat ≤ 7000000 := zq29.2; omega⟩ zq29 dX12_newChains_5 (fun q29 H hq29 hH hc => ?_)
  obtain ⟨σ30, eσ30⟩ : ∃ z, z = newA σ27 q29 111 r28.toNat := ⟨_, rfl⟩
  have h := h q29 hq29 σ30 eσ30
  have hH : Hd D cA A s (newA σ27 q29 111 r28.toNat) H locs := hH
  have hc : CB n0 s0 (newA σ27 q29 111 r28.toNat) := hc
  show W p l e R s m args below meth c H locs (gc (newA σ27 q29 111 r28.toNat) - n0) (gs (newA σ27 q29 111 r28.toNat) - s0) QM _
  rw [← eσ30] at hH hc ⊢
  have hGσ30 : RG σ30 := by rw [eσ30]; exact hGσ27.newA
  have hYσ30 : TY σ30 := by rw [eσ30]; exact hYσ27.newA hq29 (by have : gs σ27 + r28.toNat ≤ 7000000 := zq29.2; omega)
  have xσ30 : Ext σ27 σ30 := by rw [eσ30]; exact Ext.newA hq29
  have kq29 : kO σ30 q29 111 := by rw [eσ30]; exact kO.newA
  refine W.eq (g2 := F0 m 8 ls [va_rf (some q29)]) (rfl) ?_
  refine lv_astore_nQ (lv' := [(1, va_rf (some q29)), (0, .int (i32 v0))]) B.1 B.2.1 dX12_newChains_8 rfl hl (by decide) rfl (fun ls hl => ?_)
  refine lv_iconst (v := i32 0) B.1 B.2.1 dX12_newChains_9 (by decide) ?_
  refine lv_istore_n (lv' := [(2, .int (i32 0)), (1, va_rf (some q29)), (0, .int (i32 v0))]) B.1 B.2.1 dX12_newChains_10 rfl hl (by decide) rfl (fun ls hl => ?_)
  obtain ⟨n9, h⟩ := h
  exact al_X12_newChains_11 K hQ hX hTh hX0 n9 _ _ _ (tyS1 kq29) (by unfold rng; omega) h hGσ30 hYσ30 ((hE.trans xσ27).trans xσ30) _ _ _ hH (lv_sub (l' := [(1, va_rf (some q29)), (2, .int (i32 0))]) hl [1, 0] rfl) hc
theorem ok_X12_newChains (hl0 : l.stackTraces = false) (hT : TyC cA tys) {Q : Sg → Option Nat → Prop} {X : Sg → String → Prop} (hX0 : ∀ σ E, ¬ X σ E) (σ : Sg) (v0 : Int) (g0 : rng v0) (hG : RG σ) (hY : TY σ) (h : wp_X12_newChains v0 σ Q X) : Ok l D cA tys A yX12_newChains (.code yX12_newChains cX12_newChains 3 (some (.array (.object "StreamHouse$Chain")))) 2 32 [.int (i32 v0)] σ (QcA σ 111 Q) (QxC σ X) := by
  unfold wp_X12_newChains at h
  exact oc_AF hl0 (by decide +kernel) (by exact Nat.le_of_ble_eq_true rfl) hT (fun p e R s m args below meth c K hQ hX hTh H locs ls hH hl hc => a_X12_newChains_0 K hQ hX hTh hX0 σ v0 g0 h hG hY (Ext.rfl' σ) H locs ls hH (lv_sub (l' := [(0, .int (i32 v0))]) hl [0] rfl) hc)
theorem dX7_init_0 : decode cX7_init 0 = .ok (.aload_n 0, 1) := by decide +kernel
theorem dX7_init_1 : decode cX7_init 1 = .ok (.invokespecial 3, 3) := by decide +kernel
theorem dX7_init_4 : decode cX7_init 4 = .ok (.aload_n 0, 1) := by decide +kernel
theorem dX7_init_5 : decode cX7_init 5 = .ok (.new 9, 3) := by decide +kernel
theorem dX7_init_8 : decode cX7_init 8 = .ok (.dup, 1) := by decide +kernel
theorem dX7_init_9 : decode cX7_init 9 = .ok (.invokespecial 11, 3) := by decide +kernel
theorem dX7_init_12 : decode cX7_init 12 = .ok (.putfield 12, 3) := by decide +kernel
theorem dX7_init_15 : decode cX7_init 15 = .ok (.aload_n 0, 1) := by decide +kernel
theorem dX7_init_16 : decode cX7_init 16 = .ok (.bipush 16, 2) := by decide +kernel
theorem dX7_init_18 : decode cX7_init 18 = .ok (.invokestatic 18, 3) := by decide +kernel
theorem dX7_init_21 : decode cX7_init 21 = .ok (.putfield 22, 3) := by decide +kernel
theorem dX7_init_24 : decode cX7_init 24 = .ok (.aload_n 0, 1) := by decide +kernel
theorem dX7_init_25 : decode cX7_init 25 = .ok (.new 26, 3) := by decide +kernel
theorem dX7_init_28 : decode cX7_init 28 = .ok (.dup, 1) := by decide +kernel
theorem dX7_init_29 : decode cX7_init 29 = .ok (.invokespecial 28, 3) := by decide +kernel
theorem dX7_init_32 : decode cX7_init 32 = .ok (.putfield 29, 3) := by decide +kernel
theorem dX7_init_35 : decode cX7_init 35 = .ok (.aload_n 0, 1) := by decide +kernel
theorem dX7_init_36 : decode cX7_init 36 = .ok (.aload_n 1, 1) := by decide +kernel
theorem dX7_init_37 : decode cX7_init 37 = .ok (.putfield 33, 3) := by decide +kernel
theorem dX7_init_40 : decode cX7_init 40 = .ok (.aload_n 0, 1) := by decide +kernel
theorem dX7_init_41 : decode cX7_init 41 = .ok (.new 37, 3) := by decide +kernel
theorem dX7_init_44 : decode cX7_init 44 = .ok (.dup, 1) := by decide +kernel
theorem dX7_init_45 : decode cX7_init 45 = .ok (.aload_n 1, 1) := by decide +kernel
theorem dX7_init_46 : decode cX7_init 46 = .ok (.sipush 4001, 3) := by decide +kernel
theorem dX7_init_49 : decode cX7_init 49 = .ok (.invokespecial 39, 3) := by decide +kernel
theorem dX7_init_52 : decode cX7_init 52 = .ok (.putfield 42, 3) := by decide +kernel
theorem dX7_init_55 : decode cX7_init 55 = .ok (.return_, 1) := by decide +kernel
set_option maxRecDepth 20000 in
theorem a_X7_init_0 {Q : Sg → Unit → Prop} {X : Sg → String → Prop} {th : Nat} (K : MD l R p s m args c cX7_init 2 RX7 D cA tys A n0 s0 3 54 []) (hQ : CQV p l e R s m args below meth c cX7_init D cA A n0 s0 QM σi Q) (hX : CX p l e R s m args below meth c 2 D cA A n0 s0 QM σi X) (hTh : CT p l e R s m args below meth c cX7_init 2 D cA A n0 s0 QM σi RX7 X) (hin9 : yX7_init.name = "<init>" → meth.name = "<init>") (hX0 : ∀ σ E, ¬ X σ E) : ∀ (σ : Sg) (v1 : Option Nat) (g1 : tyV σ 8 v1), w_X7_init_0 th Q X σ v1 → RG σ → TY σ → Ext σi σ → kO σ th 7 → JJ p l e R s m args below meth c 2 D cA A n0 s0 QM σ 0 [(0, .ref th), (1, va_rf v1)] [] := by
  intro σ v1 g1 h hGσ hYσ hE hth H locs ls hH hl hc
  have B := K.1
  have hl9 := K.2.2.2.2.2.2
  unfold w_X7_init_0 at h
  refine lv_aload_n B.1 B.2.1 dX7_init_0 rfl (lv_at hl 0 rfl) ?_
  refine h_oinit B hl wo_X7_3 (by have := K.2.2.2.1; omega) (by have := K.2.2.2.2.1; omega) dX7_init_1 ?_
  refine lv_aload_n B.1 B.2.1 dX7_init_4 rfl (lv_at hl 0 rfl) ?_
  obtain ⟨zq33, h⟩ := h
  refine c_new B hH hc K.2.2.1 (ci := 10) rfl (by decide) wu_X10 tyX10 tyX10_ok (by decide) wn_X7_9 zq33 dX7_init_5 (fun q33 H hq33 hH hc => ?_)
  obtain ⟨σ34, eσ34⟩ : ∃ z, z = new1 σ q33 10 16 := ⟨_, rfl⟩
  have h := h q33 hq33 σ34 eσ34
  rw [← eσ34] at hH hc ⊢
  have hGσ34 : RG σ34 := by rw [eσ34]; exact hGσ.new1
  have hYσ34 : TY σ34 := by rw [eσ34]; exact hYσ.new1 hq33
  have xσ34 : Ext σ σ34 := by rw [eσ34]; exact Ext.new1 hq33
  have kq33 : kO σ34 q33 10 := by rw [eσ34]; exact kO.new1
  refine lv_dup B.1 B.2.1 dX7_init_8 rfl ?_
  refine W.eq (g2 := F0 m 9 ls [.ref q33, .ref q33, .ref th]) (rfl) ?_
  refine c_IN B hH hl hc K.2.2.1 (As := []) (ok_X10_init hl9 K.2.1 σ34 q33 kq33 hGσ34 hYσ34 (nx_X10_init h)) (fun _ _ h9 => h9.1) (List.mem_of_getElem? (l := nmL) (i := 7) rfl) rfl wq_X10_init 0 hd_X10_init ⟨Nat.le_trans (Nat.le_of_ble_eq_true rfl) K.2.2.2.1, Nat.le_trans (Nat.le_of_ble_eq_true rfl) K.2.2.2.2.1⟩ rfl (rest := [.ref q33, .ref th]) rfl (Nat.le_of_ble_eq_true rfl) dX7_init_9 (fun σ35 w hq => ?_)
  obtain ⟨rfl, h, hGσ35, hYσ35, xσ35⟩ := hq
  have h := h xσ35
  intro H locs ls hH hl hc
  refine W.eq (g2 := F0 m 12 ls [.ref q33, .ref th]) (rfl) ?_
  try dsimp only at h
  obtain ⟨σ36, eσ36⟩ : ∃ z, z = pP σ35 th 2 (some q33) := ⟨_, rfl⟩
  have h := h σ36 eσ36
  refine W.eq (g2 := F0 m 12 ls [va_rf (some q33), .ref th]) (rfl) ?_
  refine f_putF B hH (hth.up (xσ34.trans xσ35)) (by decide) rfl wu_X7 tyX7 tyX7_ok nmX7 2 (by decide) wf_X7_12 rfl (r := (some q33)) (ty := .object "StreamHouse$Task") rfl (hin9 rfl) rfl rfl rfl (nrO _ _) (ftO _ _) dX7_init_12 (fun H locs hH => ?_)
  have hH : Hd D cA A s (pP σ35 th 2 (some q33)) H locs := hH
  rw [← eσ36] at hH
  have hGσ36 : RG σ36 := by rw [eσ36]; exact hGσ35.pP
  have hYσ36 : TY σ36 := by rw [eσ36]; exact hYσ35.pP (hth.up (xσ34.trans xσ35)) (d := 10) (by decide) (tyS1 (kq33.up xσ35))
  have xσ36 : Ext σ35 σ36 := by rw [eσ36]; exact Ext.pP
  have hc : CB n0 s0 σ36 := by rw [eσ36]; exact hc
  rw [show gc σ35 = gc σ36 by rw [eσ36]; try rfl, show gs σ35 = gs σ36 by rw [eσ36]; try rfl]
  refine lv_aload_n B.1 B.2.1 dX7_init_15 rfl (lv_at hl 0 rfl) ?_
  refine lv_bipush (v := i32 16) B.1 B.2.1 dX7_init_16 (by decide) ?_
  refine c_SN B hH hl hc K.2.2.1 (As := [.int (i32 16)]) (ok_X12_newChains hl9 K.2.1 hX0 σ36 16 (by unfold rng; omega) hGσ36 hYσ36 h) (fun _ _ h9 => hX0 _ _ h9.1) (List.mem_of_getElem? (l := nmL) (i := 9) rfl) wq_X12_newChains 1 hd_X12_newChains ⟨Nat.le_trans (Nat.le_of_ble_eq_true rfl) K.2.2.2.1, Nat.le_trans (Nat.le_of_ble_eq_true rfl) K.2.2.2.2.1⟩ rfl (rest := [.ref th]) rfl (Nat.le_of_ble_eq_true rfl) dX7_init_18 (fun σ37 w hq => ?_)
  obtain ⟨r38, rfl, tr38, h, hGσ37, hYσ37, xσ37⟩ := hq
  have h := h xσ37 tr38
  intro H locs ls hH hl hc
  refine W.eq (g2 := F0 m 21 ls [va_rf r38, .ref th]) (rfl) ?_
  try dsimp only at h
  obtain ⟨σ39, eσ39⟩ : ∃ z, z = pP σ37 th 3 r38 := ⟨_, rfl⟩
  have h := h σ39 eσ39
  refine W.eq (g2 := F0 m 21 ls [va_rf r38, .ref th]) (rfl) ?_
  refine f_putF B hH (hth.up (xσ34.trans (xσ35.trans (xσ36.trans xσ37)))) (by decide) rfl wu_X7 tyX7 tyX7_ok nmX7 3 (by decide) wf_X7_22 rfl (r := r38) (ty := .array (.object "StreamHouse$Chain")) rfl (hin9 rfl) rfl rfl rfl (nrA _ _) (ftA _ _) dX7_init_21 (fun H locs hH => ?_)
  have hH : Hd D cA A s (pP σ37 th 3 r38) H locs := hH
  rw [← eσ39] at hH
  have hGσ39 : RG σ39 := by rw [eσ39]; exact hGσ37.pP
  have hYσ39 : TY σ39 := by rw [eσ39]; exact hYσ37.pP (hth.up (xσ34.trans (xσ35.trans (xσ36.trans xσ37)))) (d := 111) (by decide) tr38
  have xσ39 : Ext σ37 σ39 := by rw [eσ39]; exact Ext.pP
  have hc : CB n0 s0 σ39 := by rw [eσ39]; exact hc
  rw [show gc σ37 = gc σ39 by rw [eσ39]; try rfl, show gs σ37 = gs σ39 by rw [eσ39]; try rfl]
  refine lv_aload_n B.1 B.2.1 dX7_init_24 rfl (lv_at hl 0 rfl) ?_
  obtain ⟨zq40, h⟩ := h
  refine c_new B hH hc K.2.2.1 (ci := 1) rfl (by decide) wu_X1 tyX1 tyX1_ok (by decide) wn_X7_26 zq40 dX7_init_25 (fun q40 H hq40 hH hc => ?_)
  obtain ⟨σ41, eσ41⟩ : ∃ z, z = new1 σ39 q40 1 3 := ⟨_, rfl⟩
  have h := h q40 hq40 σ41 eσ41
  rw [← eσ41] at hH hc ⊢
  have hGσ41 : RG σ41 := by rw [eσ41]; exact hGσ39.new1
  have hYσ41 : TY σ41 := by rw [eσ41]; exact hYσ39.new1 hq40
  have xσ41 : Ext σ39 σ41 := by rw [eσ41]; exact Ext.new1 hq40
  have kq40 : kO σ41 q40 1 := by rw [eσ41]; exact kO.new1
  refine lv_dup B.1 B.2.1 dX7_init_28 rfl ?_
  refine W.eq (g2 := F0 m 29 ls [.ref q40, .ref q40, .ref th]) (rfl) ?_
  refine c_IN B hH hl hc K.2.2.1 (As := []) (ok_X1_init hl9 K.2.1 σ41 q40 kq40 hGσ41 hYσ41 (nx_X1_init h)) (fun _ _ h9 => h9.1) (List.mem_of_getElem? (l := nmL) (i := 10) rfl) rfl wq_X1_init 0 hd_X1_init ⟨Nat.le_trans (Nat.le_of_ble_eq_true rfl) K.2.2.2.1, Nat.le_trans (Nat.le_of_ble_eq_true rfl) K.2.2.2.2.1⟩ rfl (rest := [.ref q40, .ref th]) rfl (Nat.le_of_ble_eq_true rfl) dX7_init_29 (fun σ42 w hq => ?_)
  obtain ⟨rfl, h, hGσ42, hYσ42, xσ42⟩ := hq
  have h := h xσ42
  intro H locs ls hH hl hc
  refine W.eq (g2 := F0 m 32 ls [.ref q40, .ref th]) (rfl) ?_
  try dsimp only at h
  obtain ⟨σ43, eσ43⟩ : ∃ z, z = pP σ42 th 4 (some q40) := ⟨_, rfl⟩
  have h := h σ43 eσ43
  refine W.eq (g2 := F0 m 32 ls [va_rf (some q40), .ref th]) (rfl) ?_
  refine f_putF B hH (hth.up (xσ34.trans (xσ35.trans (xσ36.trans (xσ37.trans (xσ39.trans (xσ41.trans xσ42))))))) (by decide) rfl wu_X7 tyX7 tyX7_ok nmX7 4 (by decide) wf_X7_29 rfl (r := (some q40)) (ty := .object "StreamHouse$Chain") rfl (hin9 rfl) rfl rfl rfl (nrO _ _) (ftO _ _) dX7_init_32 (fun H locs hH => ?_)
  have hH : Hd D cA A s (pP σ42 th 4 (some q40)) H locs := hH
  rw [← eσ43] at hH
  have hGσ43 : RG σ43 := by rw [eσ43]; exact hGσ42.pP
  have hYσ43 : TY σ43 := by rw [eσ43]; exact hYσ42.pP (hth.up (xσ34.trans (xσ35.trans (xσ36.trans (xσ37.trans (xσ39.trans (xσ41.trans xσ42))))))) (d := 1) (by decide) (tyS1 (kq40.up xσ42))
  have xσ43 : Ext σ42 σ43 := by rw [eσ43]; exact Ext.pP
  have hc : CB n0 s0 σ43 := by rw [eσ43]; exact hc
  rw [show gc σ42 = gc σ43 by rw [eσ43]; try rfl, show gs σ42 = gs σ43 by rw [eσ43]; try rfl]
  refine lv_aload_n B.1 B.2.1 dX7_init_35 rfl (lv_at hl 0 rfl) ?_
  refine lv_aload_nQ B.1 B.2.1 dX7_init_36 rfl (lv_at hl 1 rfl) ?_
  obtain ⟨σ44, eσ44⟩ : ∃ z, z = pP σ43 th 0 v1 := ⟨_, rfl⟩
  have h := h σ44 eσ44
  refine W.eq (g2 := F0 m 37 ls [va_rf v1, .ref th]) (rfl) ?_
  refine f_putF B hH (hth.up (xσ34.trans (xσ35.trans (xσ36.trans (xσ37.trans (xσ39.trans (xσ41.trans (xσ42.trans xσ43)))))))) (by decide) rfl wu_X7 tyX7 tyX7_ok nmX7 0 (by decide) wf_X7_33 rfl (r := v1) (ty := .object "StreamHouse$Pool") rfl (hin9 rfl) rfl rfl rfl (nrO _ _) (ftO _ _) dX7_init_37 (fun H locs hH => ?_)
  have hH : Hd D cA A s (pP σ43 th 0 v1) H locs := hH
  rw [← eσ44] at hH
  have hGσ44 : RG σ44 := by rw [eσ44]; exact hGσ43.pP
  have hYσ44 : TY σ44 := by rw [eσ44]; exact hYσ43.pP (hth.up (xσ34.trans (xσ35.trans (xσ36.trans (xσ37.trans (xσ39.trans (xσ41.trans (xσ42.trans xσ43)))))))) (d := 8) (by decide) (g1.up (xσ34.trans (xσ35.trans (xσ36.trans (xσ37.trans (xσ39.trans (xσ41.trans (xσ42.trans xσ43))))))))
  have xσ44 : Ext σ43 σ44 := by rw [eσ44]; exact Ext.pP
  have hc : CB n0 s0 σ44 := by rw [eσ44]; exact hc
  rw [show gc σ43 = gc σ44 by rw [eσ44]; try rfl, show gs σ43 = gs σ44 by rw [eσ44]; try rfl]
  refine lv_aload_n B.1 B.2.1 dX7_init_40 rfl (lv_at hl 0 rfl) ?_
  obtain ⟨zq45, h⟩ := h
  refine c_new B hH hc K.2.2.1 (ci := 11) rfl (by decide) wu_X11 tyX11 tyX11_ok (by decide) wn_X7_37 zq45 dX7_init_41 (fun q45 H hq45 hH hc => ?_)
  obtain ⟨σ46, eσ46⟩ : ∃ z, z = new1 σ44 q45 11 6 := ⟨_, rfl⟩
  have h := h q45 hq45 σ46 eσ46
  rw [← eσ46] at hH hc ⊢
  have hGσ46 : RG σ46 := by rw [eσ46]; exact hGσ44.new1
  have hYσ46 : TY σ46 := by rw [eσ46]; exact hYσ44.new1 hq45
  have xσ46 : Ext σ44 σ46 := by rw [eσ46]; exact Ext.new1 hq45
  have kq45 : kO σ46 q45 11 := by rw [eσ46]; exact kO.new1
  refine lv_dup B.1 B.2.1 dX7_init_44 rfl ?_
  refine lv_aload_nQ B.1 B.2.1 dX7_init_45 rfl (lv_at hl 1 rfl) ?_
  refine lv_sipush (v := i32 4001) B.1 B.2.1 dX7_init_46 (by decide) ?_
  refine W.eq (g2 := F0 m 49 ls [.int (i32 4001), va_rf v1, .ref q45, .ref q45, .ref th]) (rfl) ?_
  refine c_I B hH hl hc K.2.2.1 (As := [va_rf v1, .int (i32 4001)]) (ok_X11_init hl9 K.2.1 hX0 σ46 q45 v1 4001 (g1.up (xσ34.trans (xσ35.trans (xσ36.trans (xσ37.trans (xσ39.trans (xσ41.trans (xσ42.trans (xσ43.trans (xσ44.trans xσ46)))))))))) (by unfold rng; omega) kq45 hGσ46 hYσ46 h) (fun _ _ h9 => hX0 _ _ h9.1) rfl wi_X7_39 2 hd_X11_init ⟨Nat.le_trans (Nat.le_of_ble_eq_true rfl) K.2.2.2.1, Nat.le_trans (Nat.le_of_ble_eq_true rfl) K.2.2.2.2.1⟩ rfl (rest := [.ref q45, .ref th]) rfl (Nat.le_of_ble_eq_true rfl) dX7_init_49 (fun σ47 w hq => ?_)
  obtain ⟨rfl, h, hGσ47, hYσ47, xσ47⟩ := hq
  have h := h xσ47
  intro H locs ls hH hl hc
  refine W.eq (g2 := F0 m 52 ls [.ref q45, .ref th]) (rfl) ?_
  try dsimp only at h
  obtain ⟨σ48, eσ48⟩ : ∃ z, z = pP σ47 th 1 (some q45) := ⟨_, rfl⟩
  have h := h σ48 eσ48
  refine W.eq (g2 := F0 m 52 ls [va_rf (some q45), .ref th]) (rfl) ?_
  refine f_putF B hH (hth.up (xσ34.trans (xσ35.trans (xσ36.trans (xσ37.trans (xσ39.trans (xσ41.trans (xσ42.trans (xσ43.trans (xσ44.trans (xσ46.trans xσ47))))))))))) (by decide) rfl wu_X7 tyX7 tyX7_ok nmX7 1 (by decide) wf_X7_42 rfl (r := (some q45)) (ty := .object "StreamHouse$Works") rfl (hin9 rfl) rfl rfl rfl (nrO _ _) (ftO _ _) dX7_init_52 (fun H locs hH => ?_)
  have hH : Hd D cA A s (pP σ47 th 1 (some q45)) H locs := hH
  rw [← eσ48] at hH
  have hGσ48 : RG σ48 := by rw [eσ48]; exact hGσ47.pP
  have hYσ48 : TY σ48 := by rw [eσ48]; exact hYσ47.pP (hth.up (xσ34.trans (xσ35.trans (xσ36.trans (xσ37.trans (xσ39.trans (xσ41.trans (xσ42.trans (xσ43.trans (xσ44.trans (xσ46.trans xσ47))))))))))) (d := 11) (by decide) (tyS1 (kq45.up xσ47))
  have xσ48 : Ext σ47 σ48 := by rw [eσ48]; exact Ext.pP
  have hc : CB n0 s0 σ48 := by rw [eσ48]; exact hc
  rw [show gc σ47 = gc σ48 by rw [eσ48]; try rfl, show gs σ47 = gs σ48 by rw [eσ48]; try rfl]
  exact hQ _ _ _ _ _ dX7_init_55 hH hc h hGσ48 hYσ48 ((((((((((((hE.trans xσ34).trans xσ35).trans xσ36).trans xσ37).trans xσ39).trans xσ41).trans xσ42).trans xσ43).trans xσ44).trans xσ46).trans xσ47).trans xσ48)
theorem ok_X7_init (hl0 : l.stackTraces = false) (hT : TyC cA tys) {Q : Sg → Unit → Prop} {X : Sg → String → Prop} (hX0 : ∀ σ E, ¬ X σ E) (σ : Sg) (th : Nat) (v1 : Option Nat) (g1 : tyV σ 8 v1) (hth : kO σ th 7) (hG : RG σ) (hY : TY σ) (h : wp_X7_init th v1 σ Q X) : Ok l D cA tys A yX7_init (.code yX7_init cX7_init 2 none) 3 54 [.ref th, va_rf v1] σ (QcV σ Q) (QxC σ X) := by
  unfold wp_X7_init at h
  exact oc_V hl0 (by decide) (by cases v1 <;> exact Nat.le_of_ble_eq_true rfl) hT (fun p e R s m args below meth c K hQ hX hTh hin9 H locs ls hH hl hc => a_X7_init_0 K hQ hX hTh hin9 hX0 σ v1 g1 h hG hY (Ext.rfl' σ) hth H locs ls hH (lv_sub (l' := [(0, .ref th), (1, va_rf v1)]) hl [0, 1] (by cases v1 <;> rfl)) hc)
theorem dX8_init_0 : decode cX8_init 0 = .ok (.aload_n 0, 1) := by decide +kernel
theorem dX8_init_1 : decode cX8_init 1 = .ok (.invokespecial 3, 3) := by decide +kernel
theorem dX8_init_4 : decode cX8_init 4 = .ok (.aload_n 0, 1) := by decide +kernel
theorem dX8_init_5 : decode cX8_init 5 = .ok (.sipush 256, 3) := by decide +kernel
theorem dX8_init_8 : decode cX8_init 8 = .ok (.newarray .long, 2) := by decide +kernel
theorem dX8_init_10 : decode cX8_init 10 = .ok (.putfield 11, 3) := by decide +kernel
theorem dX8_init_13 : decode cX8_init 13 = .ok (.return_, 1) := by decide +kernel
set_option maxRecDepth 20000 in
theorem a_X8_init_0 {Q : Sg → Unit → Prop} {X : Sg → String → Prop} {th : Nat} (K : MD l R p s m args c cX8_init 1 RX8 D cA tys A n0 s0 1 12 []) (hQ : CQV p l e R s m args below meth c cX8_init D cA A n0 s0 QM σi Q) (hX : CX p l e R s m args below meth c 1 D cA A n0 s0 QM σi X) (hTh : CT p l e R s m args below meth c cX8_init 1 D cA A n0 s0 QM σi RX8 X) (hin9 : yX8_init.name = "<init>" → meth.name = "<init>") (hX0 : ∀ σ E, ¬ X σ E) : ∀ (σ : Sg), w_X8_init_0 th Q X σ → RG σ → TY σ → Ext σi σ → kO σ th 8 → JJ p l e R s m args below meth c 1 D cA A n0 s0 QM σ 0 [(0, .ref th)] [] := by
  intro σ h hGσ hYσ hE hth H locs ls hH hl hc
  have B := K.1
  have hl9 := K.2.2.2.2.2.2
  unfold w_X8_init_0 at h
  refine lv_aload_n B.1 B.2.1 dX8_init_0 rfl (lv_at hl 0 rfl) ?_
  refine h_oinit B hl wo_X8_3 (by have := K.2.2.2.1; omega) (by have := K.2.2.2.2.1; omega) dX8_init_1 ?_
  refine lv_aload_n B.1 B.2.1 dX8_init_4 rfl (lv_at hl 0 rfl) ?_
  refine lv_sipush (v := i32 256) B.1 B.2.1 dX8_init_5 (by decide) ?_
  obtain ⟨zq7, h⟩ := h
  refine c_newJ B K.2.1 hH hc K.2.2.1 wa_101 (n := (256 : Int)) ⟨(by omega), by have : gs σ + 256 ≤ 7000000 := zq7.2; omega⟩ zq7 dX8_init_8 (fun q7 H hq7 hH hc => ?_)
  obtain ⟨σ8, eσ8⟩ : ∃ z, z = newA σ q7 101 256 := ⟨_, rfl⟩
  have h := h q7 hq7 σ8 eσ8
  have hH : Hd D cA A s (newA σ q7 101 256) H locs := hH
  have hc : CB n0 s0 (newA σ q7 101 256) := hc
  show W p l e R s m args below meth c H locs (gc (newA σ q7 101 256) - n0) (gs (newA σ q7 101 256) - s0) QM _
  rw [← eσ8] at hH hc ⊢
  have hGσ8 : RG σ8 := by rw [eσ8]; exact hGσ.newA
  have hYσ8 : TY σ8 := by rw [eσ8]; exact hYσ.newA hq7 (by have : gs σ + 256 ≤ 7000000 := zq7.2; omega)
  have xσ8 : Ext σ σ8 := by rw [eσ8]; exact Ext.newA hq7
  have kq7 : kO σ8 q7 101 := by rw [eσ8]; exact kO.newA
  obtain ⟨σ9, eσ9⟩ : ∃ z, z = pP σ8 th 2 (some q7) := ⟨_, rfl⟩
  have h := h σ9 eσ9
  refine W.eq (g2 := F0 m 10 ls [va_rf (some q7), .ref th]) (rfl) ?_
  refine f_putp B hH (hth.up xσ8) (by decide) rfl wu_X8 tyX8 tyX8_ok nmX8 2 (by decide) wf_X8_11 rfl (r := (some q7)) (ty := .array .long) rfl rfl rfl (nrA _ _) (ftA _ _) dX8_init_10 (fun H locs hH => ?_)
  have hH : Hd D cA A s (pP σ8 th 2 (some q7)) H locs := hH
  rw [← eσ9] at hH
  have hGσ9 : RG σ9 := by rw [eσ9]; exact hGσ8.pP
  have hYσ9 : TY σ9 := by rw [eσ9]; exact hYσ8.pP (hth.up xσ8) (d := 101) (by decide) (tyS1 kq7)
  have xσ9 : Ext σ8 σ9 := by rw [eσ9]; exact Ext.pP
  have hc : CB n0 s0 σ9 := by rw [eσ9]; exact hc
  rw [show gc σ8 = gc σ9 by rw [eσ9]; try rfl, show gs σ8 = gs σ9 by rw [eσ9]; try rfl]
  exact hQ _ _ _ _ _ dX8_init_13 hH hc h hGσ9 hYσ9 ((hE.trans xσ8).trans xσ9)
theorem ok_X8_init (hl0 : l.stackTraces = false) (hT : TyC cA tys) {Q : Sg → Unit → Prop} {X : Sg → String → Prop} (hX0 : ∀ σ E, ¬ X σ E) (σ : Sg) (th : Nat) (hth : kO σ th 8) (hG : RG σ) (hY : TY σ) (h : wp_X8_init th σ Q X) : Ok l D cA tys A yX8_init (.code yX8_init cX8_init 1 none) 1 12 [.ref th] σ (QcV σ Q) (QxC σ X) := by
  unfold wp_X8_init at h
  exact oc_V hl0 (by decide) (by exact Nat.le_of_ble_eq_true rfl) hT (fun p e R s m args below meth c K hQ hX hTh hin9 H locs ls hH hl hc => a_X8_init_0 K hQ hX hTh hin9 hX0 σ h hG hY (Ext.rfl' σ) hth H locs ls hH (lv_sub (l' := [(0, .ref th)]) hl [0] rfl) hc)
theorem dX3_init_0 : decode cX3_init 0 = .ok (.aload_n 0, 1) := by decide +kernel
theorem dX3_init_1 : decode cX3_init 1 = .ok (.invokespecial 3, 3) := by decide +kernel
theorem dX3_init_4 : decode cX3_init 4 = .ok (.aload_n 0, 1) := by decide +kernel
theorem dX3_init_5 : decode cX3_init 5 = .ok (.bipush 64, 2) := by decide +kernel
theorem dX3_init_7 : decode cX3_init 7 = .ok (.anewarray 9, 3) := by decide +kernel
theorem dX3_init_10 : decode cX3_init 10 = .ok (.putfield 11, 3) := by decide +kernel
theorem dX3_init_13 : decode cX3_init 13 = .ok (.aload_n 0, 1) := by decide +kernel
theorem dX3_init_14 : decode cX3_init 14 = .ok (.bipush 64, 2) := by decide +kernel
theorem dX3_init_16 : decode cX3_init 16 = .ok (.anewarray 9, 3) := by decide +kernel
theorem dX3_init_19 : decode cX3_init 19 = .ok (.putfield 17, 3) := by decide +kernel
theorem dX3_init_22 : decode cX3_init 22 = .ok (.aload_n 0, 1) := by decide +kernel
theorem dX3_init_23 : decode cX3_init 23 = .ok (.iconst (-1), 1) := by decide +kernel
theorem dX3_init_24 : decode cX3_init 24 = .ok (.putfield 20, 3) := by decide +kernel
theorem dX3_init_27 : decode cX3_init 27 = .ok (.return_, 1) := by decide +kernel
set_option maxRecDepth 20000 in
theorem a_X3_init_0 {Q : Sg → Unit → Prop} {X : Sg → String → Prop} {th : Nat} (K : MD l R p s m args c cX3_init 1 RX3 D cA tys A n0 s0 1 12 []) (hQ : CQV p l e R s m args below meth c cX3_init D cA A n0 s0 QM σi Q) (hX : CX p l e R s m args below meth c 1 D cA A n0 s0 QM σi X) (hTh : CT p l e R s m args below meth c cX3_init 1 D cA A n0 s0 QM σi RX3 X) (hin9 : yX3_init.name = "<init>" → meth.name = "<init>") (hX0 : ∀ σ E, ¬ X σ E) : ∀ (σ : Sg), w_X3_init_0 th Q X σ → RG σ → TY σ → Ext σi σ → kO σ th 3 → JJ p l e R s m args below meth c 1 D cA A n0 s0 QM σ 0 [(0, .ref th)] [] := by
  intro σ h hGσ hYσ hE hth H locs ls hH hl hc
  have B := K.1
  have hl9 := K.2.2.2.2.2.2
  unfold w_X3_init_0 at h
  refine lv_aload_n B.1 B.2.1 dX3_init_0 rfl (lv_at hl 0 rfl) ?_
  refine h_oinit B hl wo_X3_3 (by have := K.2.2.2.1; omega) (by have := K.2.2.2.2.1; omega) dX3_init_1 ?_
  refine lv_aload_n B.1 B.2.1 dX3_init_4 rfl (lv_at hl 0 rfl) ?_
  refine lv_bipush (v := i32 64) B.1 B.2.1 dX3_init_5 (by decide) ?_
  obtain ⟨zq15, h⟩ := h
  refine c_newR B hH hc K.2.2.1 (C := RX10) (k9 := 120) (t0 := 7) (by decide) K.2.1.2.2.2.2.1 (List.mem_of_getElem? (l := aoL) (i := 0) rfl) wx_X3_9 (n := (64 : Int)) ⟨(by omega), by have : gs σ + 64 ≤ 7000000 := zq15.2; omega⟩ zq15 dX3_init_7 (fun q15 H hq15 hH hc => ?_)
  obtain ⟨σ16, eσ16⟩ : ∃ z, z = newA σ q15 120 64 := ⟨_, rfl⟩
  have h := h q15 hq15 σ16 eσ16
  have hH : Hd D cA A s (newA σ q15 120 64) H locs := hH
  have hc : CB n0 s0 (newA σ q15 120 64) := hc
  show W p l e R s m args below meth c H locs (gc (newA σ q15 120 64) - n0) (gs (newA σ q15 120 64) - s0) QM _
  rw [← eσ16] at hH hc ⊢
  have hGσ16 : RG σ16 := by rw [eσ16]; exact hGσ.newA
  have hYσ16 : TY σ16 := by rw [eσ16]; exact hYσ.newA hq15 (by have : gs σ + 64 ≤ 7000000 := zq15.2; omega)
  have xσ16 : Ext σ σ16 := by rw [eσ16]; exact Ext.newA hq15
  have kq15 : kO σ16 q15 120 := by rw [eσ16]; exact kO.newA
  obtain ⟨σ17, eσ17⟩ : ∃ z, z = pP σ16 th 0 (some q15) := ⟨_, rfl⟩
  have h := h σ17 eσ17
  refine W.eq (g2 := F0 m 10 ls [va_rf (some q15), .ref th]) (rfl) ?_
  refine f_putp B hH (hth.up xσ16) (by decide) rfl wu_X3 tyX3 tyX3_ok nmX3 0 (by decide) wf_X3_11 rfl (r := (some q15)) (ty := .array (.object "StreamHouse$Task")) rfl rfl rfl (nrA _ _) (ftA _ _) dX3_init_10 (fun H locs hH => ?_)
  have hH : Hd D cA A s (pP σ16 th 0 (some q15)) H locs := hH
  rw [← eσ17] at hH
  have hGσ17 : RG σ17 := by rw [eσ17]; exact hGσ16.pP
  have hYσ17 : TY σ17 := by rw [eσ17]; exact hYσ16.pP (hth.up xσ16) (d := 120) (by decide) (tyS1 kq15)
  have xσ17 : Ext σ16 σ17 := by rw [eσ17]; exact Ext.pP
  have hc : CB n0 s0 σ17 := by rw [eσ17]; exact hc
  rw [show gc σ16 = gc σ17 by rw [eσ17]; try rfl, show gs σ16 = gs σ17 by rw [eσ17]; try rfl]
  refine lv_aload_n B.1 B.2.1 dX3_init_13 rfl (lv_at hl 0 rfl) ?_
  refine lv_bipush (v := i32 64) B.1 B.2.1 dX3_init_14 (by decide) ?_
  obtain ⟨zq18, h⟩ := h
  refine c_newR B hH hc K.2.2.1 (C := RX10) (k9 := 120) (t0 := 7) (by decide) K.2.1.2.2.2.2.1 (List.mem_of_getElem? (l := aoL) (i := 0) rfl) wx_X3_9 (n := (64 : Int)) ⟨(by omega), by have : gs σ17 + 64 ≤ 7000000 := zq18.2; omega⟩ zq18 dX3_init_16 (fun q18 H hq18 hH hc => ?_)
  obtain ⟨σ19, eσ19⟩ : ∃ z, z = newA σ17 q18 120 64 := ⟨_, rfl⟩
  have h := h q18 hq18 σ19 eσ19
  have hH : Hd D cA A s (newA σ17 q18 120 64) H locs := hH
  have hc : CB n0 s0 (newA σ17 q18 120 64) := hc
  show W p l e R s m args below meth c H locs (gc (newA σ17 q18 120 64) - n0) (gs (newA σ17 q18 120 64) - s0) QM _
  rw [← eσ19] at hH hc ⊢
  have hGσ19 : RG σ19 := by rw [eσ19]; exact hGσ17.newA
  have hYσ19 : TY σ19 := by rw [eσ19]; exact hYσ17.newA hq18 (by have : gs σ17 + 64 ≤ 7000000 := zq18.2; omega)
  have xσ19 : Ext σ17 σ19 := by rw [eσ19]; exact Ext.newA hq18
  have kq18 : kO σ19 q18 120 := by rw [eσ19]; exact kO.newA
  obtain ⟨σ20, eσ20⟩ : ∃ z, z = pP σ19 th 1 (some q18) := ⟨_, rfl⟩
  have h := h σ20 eσ20
  refine W.eq (g2 := F0 m 19 ls [va_rf (some q18), .ref th]) (rfl) ?_
  refine f_putp B hH (hth.up (xσ16.trans (xσ17.trans xσ19))) (by decide) rfl wu_X3 tyX3 tyX3_ok nmX3 1 (by decide) wf_X3_17 rfl (r := (some q18)) (ty := .array (.object "StreamHouse$Task")) rfl rfl rfl (nrA _ _) (ftA _ _) dX3_init_19 (fun H locs hH => ?_)
  have hH : Hd D cA A s (pP σ19 th 1 (some q18)) H locs := hH
  rw [← eσ20] at hH
  have hGσ20 : RG σ20 := by rw [eσ20]; exact hGσ19.pP
  have hYσ20 : TY σ20 := by rw [eσ20]; exact hYσ19.pP (hth.up (xσ16.trans (xσ17.trans xσ19))) (d := 120) (by decide) (tyS1 kq18)
  have xσ20 : Ext σ19 σ20 := by rw [eσ20]; exact Ext.pP
  have hc : CB n0 s0 σ20 := by rw [eσ20]; exact hc
  rw [show gc σ19 = gc σ20 by rw [eσ20]; try rfl, show gs σ19 = gs σ20 by rw [eσ20]; try rfl]
  refine lv_aload_n B.1 B.2.1 dX3_init_22 rfl (lv_at hl 0 rfl) ?_
  refine lv_iconst (v := i32 (-1)) B.1 B.2.1 dX3_init_23 (by decide) ?_
  obtain ⟨σ21, eσ21⟩ : ∃ z, z = pI σ20 th 8 (-1) := ⟨_, rfl⟩
  have h := h σ21 eσ21
  refine f_puti B hH (hth.up (xσ16.trans (xσ17.trans (xσ19.trans xσ20)))) (by decide) rfl wu_X3 tyX3 tyX3_ok nmX3 8 (by decide) wf_X3_20 rfl (ty := .int) rfl rfl rfl rfl rfl dX3_init_24 (fun H locs hH => ?_)
  have hH : Hd D cA A s (pI σ20 th 8 (-1)) H locs := hH
  rw [← eσ21] at hH
  have hGσ21 : RG σ21 := by rw [eσ21]; exact hGσ20.pI (by unfold rng; omega)
  have hYσ21 : TY σ21 := by rw [eσ21]; exact hYσ20.pI
  have xσ21 : Ext σ20 σ21 := by rw [eσ21]; exact Ext.pI
  have hc : CB n0 s0 σ21 := by rw [eσ21]; exact hc
  rw [show gc σ20 = gc σ21 by rw [eσ21]; try rfl, show gs σ20 = gs σ21 by rw [eσ21]; try rfl]
  exact hQ _ _ _ _ _ dX3_init_27 hH hc h hGσ21 hYσ21 (((((hE.trans xσ16).trans xσ17).trans xσ19).trans xσ20).trans xσ21)
theorem ok_X3_init (hl0 : l.stackTraces = false) (hT : TyC cA tys) {Q : Sg → Unit → Prop} {X : Sg → String → Prop} (hX0 : ∀ σ E, ¬ X σ E) (σ : Sg) (th : Nat) (hth : kO σ th 3) (hG : RG σ) (hY : TY σ) (h : wp_X3_init th σ Q X) : Ok l D cA tys A yX3_init (.code yX3_init cX3_init 1 none) 1 12 [.ref th] σ (QcV σ Q) (QxC σ X) := by
  unfold wp_X3_init at h
  exact oc_V hl0 (by decide) (by exact Nat.le_of_ble_eq_true rfl) hT (fun p e R s m args below meth c K hQ hX hTh hin9 H locs ls hH hl hc => a_X3_init_0 K hQ hX hTh hin9 hX0 σ h hG hY (Ext.rfl' σ) hth H locs ls hH (lv_sub (l' := [(0, .ref th)]) hl [0] rfl) hc)
theorem dX9_init_0 : decode cX9_init 0 = .ok (.aload_n 0, 1) := by decide +kernel
theorem dX9_init_1 : decode cX9_init 1 = .ok (.invokespecial 3, 3) := by decide +kernel
theorem dX9_init_4 : decode cX9_init 4 = .ok (.aload_n 0, 1) := by decide +kernel
theorem dX9_init_5 : decode cX9_init 5 = .ok (.new 9, 3) := by decide +kernel
theorem dX9_init_8 : decode cX9_init 8 = .ok (.dup, 1) := by decide +kernel
theorem dX9_init_9 : decode cX9_init 9 = .ok (.invokespecial 11, 3) := by decide +kernel
theorem dX9_init_12 : decode cX9_init 12 = .ok (.putfield 12, 3) := by decide +kernel
theorem dX9_init_15 : decode cX9_init 15 = .ok (.aload_n 0, 1) := by decide +kernel
theorem dX9_init_16 : decode cX9_init 16 = .ok (.bipush 64, 2) := by decide +kernel
theorem dX9_init_18 : decode cX9_init 18 = .ok (.anewarray 18, 3) := by decide +kernel
theorem dX9_init_21 : decode cX9_init 21 = .ok (.putfield 20, 3) := by decide +kernel
theorem dX9_init_24 : decode cX9_init 24 = .ok (.aload_n 0, 1) := by decide +kernel
theorem dX9_init_25 : decode cX9_init 25 = .ok (.sipush 512, 3) := by decide +kernel
theorem dX9_init_28 : decode cX9_init 28 = .ok (.anewarray 24, 3) := by decide +kernel
theorem dX9_init_31 : decode cX9_init 31 = .ok (.putfield 26, 3) := by decide +kernel
theorem dX9_init_34 : decode cX9_init 34 = .ok (.aload_n 0, 1) := by decide +kernel
theorem dX9_init_35 : decode cX9_init 35 = .ok (.bipush 17, 2) := by decide +kernel
theorem dX9_init_37 : decode cX9_init 37 = .ok (.newarray .int, 2) := by decide +kernel
theorem dX9_init_39 : decode cX9_init 39 = .ok (.putfield 30, 3) := by decide +kernel
theorem dX9_init_42 : decode cX9_init 42 = .ok (.aload_n 0, 1) := by decide +kernel
theorem dX9_init_43 : decode cX9_init 43 = .ok (.iconst 4, 1) := by decide +kernel
theorem dX9_init_44 : decode cX9_init 44 = .ok (.invokestatic 34, 3) := by decide +kernel
theorem dX9_init_47 : decode cX9_init 47 = .ok (.putfield 38, 3) := by decide +kernel
theorem dX9_init_50 : decode cX9_init 50 = .ok (.aload_n 0, 1) := by decide +kernel
theorem dX9_init_51 : decode cX9_init 51 = .ok (.iconst 4, 1) := by decide +kernel
theorem dX9_init_52 : decode cX9_init 52 = .ok (.invokestatic 34, 3) := by decide +kernel
theorem dX9_init_55 : decode cX9_init 55 = .ok (.putfield 42, 3) := by decide +kernel
theorem dX9_init_58 : decode cX9_init 58 = .ok (.aload_n 0, 1) := by decide +kernel
theorem dX9_init_59 : decode cX9_init 59 = .ok (.iconst 4, 1) := by decide +kernel
theorem dX9_init_60 : decode cX9_init 60 = .ok (.invokestatic 34, 3) := by decide +kernel
theorem dX9_init_63 : decode cX9_init 63 = .ok (.putfield 45, 3) := by decide +kernel
theorem dX9_init_66 : decode cX9_init 66 = .ok (.aload_n 0, 1) := by decide +kernel
theorem dX9_init_67 : decode cX9_init 67 = .ok (.aload_n 1, 1) := by decide +kernel
theorem dX9_init_68 : decode cX9_init 68 = .ok (.putfield 48, 3) := by decide +kernel
theorem dX9_init_71 : decode cX9_init 71 = .ok (.aload_n 0, 1) := by decide +kernel
theorem dX9_init_72 : decode cX9_init 72 = .ok (.new 52, 3) := by decide +kernel
theorem dX9_init_75 : decode cX9_init 75 = .ok (.dup, 1) := by decide +kernel
theorem dX9_init_76 : decode cX9_init 76 = .ok (.aload_n 1, 1) := by decide +kernel
theorem dX9_init_77 : decode cX9_init 77 = .ok (.sipush 4000, 3) := by decide +kernel
theorem dX9_init_80 : decode cX9_init 80 = .ok (.invokespecial 54, 3) := by decide +kernel
theorem dX9_init_83 : decode cX9_init 83 = .ok (.putfield 57, 3) := by decide +kernel
theorem dX9_init_86 : decode cX9_init 86 = .ok (.return_, 1) := by decide +kernel
set_option maxRecDepth 20000 in
theorem a_X9_init_0 {Q : Sg → Unit → Prop} {X : Sg → String → Prop} {th : Nat} (K : MD l R p s m args c cX9_init 2 RX9 D cA tys A n0 s0 3 54 []) (hQ : CQV p l e R s m args below meth c cX9_init D cA A n0 s0 QM σi Q) (hX : CX p l e R s m args below meth c 2 D cA A n0 s0 QM σi X) (hTh : CT p l e R s m args below meth c cX9_init 2 D cA A n0 s0 QM σi RX9 X) (hin9 : yX9_init.name = "<init>" → meth.name = "<init>") (hX0 : ∀ σ E, ¬ X σ E) : ∀ (σ : Sg) (v1 : Option Nat) (g1 : tyV σ 8 v1), w_X9_init_0 th Q X σ v1 → RG σ → TY σ → Ext σi σ → kO σ th 9 → JJ p l e R s m args below meth c 2 D cA A n0 s0 QM σ 0 [(0, .ref th), (1, va_rf v1)] [] := by
  intro σ v1 g1 h hGσ hYσ hE hth H locs ls hH hl hc
  have B := K.1
  have hl9 := K.2.2.2.2.2.2
  unfold w_X9_init_0 at h
  refine lv_aload_n B.1 B.2.1 dX9_init_0 rfl (lv_at hl 0 rfl) ?_
  refine h_oinit B hl wo_X9_3 (by have := K.2.2.2.1; omega) (by have := K.2.2.2.2.1; omega) dX9_init_1 ?_
  refine lv_aload_n B.1 B.2.1 dX9_init_4 rfl (lv_at hl 0 rfl) ?_
  obtain ⟨zq55, h⟩ := h
  refine c_new B hH hc K.2.2.1 (ci := 3) rfl (by decide) wu_X3 tyX3 tyX3_ok (by decide) wn_X9_9 zq55 dX9_init_5 (fun q55 H hq55 hH hc => ?_)
  obtain ⟨σ56, eσ56⟩ : ∃ z, z = new1 σ q55 3 10 := ⟨_, rfl⟩
  have h := h q55 hq55 σ56 eσ56
  rw [← eσ56] at hH hc ⊢
  have hGσ56 : RG σ56 := by rw [eσ56]; exact hGσ.new1
  have hYσ56 : TY σ56 := by rw [eσ56]; exact hYσ.new1 hq55
  have xσ56 : Ext σ σ56 := by rw [eσ56]; exact Ext.new1 hq55
  have kq55 : kO σ56 q55 3 := by rw [eσ56]; exact kO.new1
  refine lv_dup B.1 B.2.1 dX9_init_8 rfl ?_
  refine W.eq (g2 := F0 m 9 ls [.ref q55, .ref q55, .ref th]) (rfl) ?_
  refine c_IN B hH hl hc K.2.2.1 (As := []) (ok_X3_init hl9 K.2.1 hX0 σ56 q55 kq55 hGσ56 hYσ56 h) (fun _ _ h9 => hX0 _ _ h9.1) (List.mem_of_getElem? (l := nmL) (i := 3) rfl) rfl wq_X3_init 0 hd_X3_init ⟨Nat.le_trans (Nat.le_of_ble_eq_true rfl) K.2.2.2.1, Nat.le_trans (Nat.le_of_ble_eq_true rfl) K.2.2.2.2.1⟩ rfl (rest := [.ref q55, .ref th]) rfl (Nat.le_of_ble_eq_true rfl) dX9_init_9 (fun σ57 w hq => ?_)
  obtain ⟨rfl, h, hGσ57, hYσ57, xσ57⟩ := hq
  have h := h xσ57
  intro H locs ls hH hl hc
  refine W.eq (g2 := F0 m 12 ls [.ref q55, .ref th]) (rfl) ?_
  try dsimp only at h
  obtain ⟨σ58, eσ58⟩ : ∃ z, z = pP σ57 th 2 (some q55) := ⟨_, rfl⟩
  have h := h σ58 eσ58
  refine W.eq (g2 := F0 m 12 ls [va_rf (some q55), .ref th]) (rfl) ?_
  refine f_putF B hH (hth.up (xσ56.trans xσ57)) (by decide) rfl wu_X9 tyX9 tyX9_ok nmX9 2 (by decide) wf_X9_12 rfl (r := (some q55)) (ty := .object "StreamHouse$Disk") rfl (hin9 rfl) rfl rfl rfl (nrO _ _) (ftO _ _) dX9_init_12 (fun H locs hH => ?_)
  have hH : Hd D cA A s (pP σ57 th 2 (some q55)) H locs := hH
  rw [← eσ58] at hH
  have hGσ58 : RG σ58 := by rw [eσ58]; exact hGσ57.pP
  have hYσ58 : TY σ58 := by rw [eσ58]; exact hYσ57.pP (hth.up (xσ56.trans xσ57)) (d := 3) (by decide) (tyS1 (kq55.up xσ57))
  have xσ58 : Ext σ57 σ58 := by rw [eσ58]; exact Ext.pP
  have hc : CB n0 s0 σ58 := by rw [eσ58]; exact hc
  rw [show gc σ57 = gc σ58 by rw [eσ58]; try rfl, show gs σ57 = gs σ58 by rw [eσ58]; try rfl]
  refine lv_aload_n B.1 B.2.1 dX9_init_15 rfl (lv_at hl 0 rfl) ?_
  refine lv_bipush (v := i32 64) B.1 B.2.1 dX9_init_16 (by decide) ?_
  obtain ⟨zq59, h⟩ := h
  refine c_newR B hH hc K.2.2.1 (C := RX10) (k9 := 120) (t0 := 7) (by decide) K.2.1.2.2.2.2.1 (List.mem_of_getElem? (l := aoL) (i := 0) rfl) wx_X9_18 (n := (64 : Int)) ⟨(by omega), by have : gs σ58 + 64 ≤ 7000000 := zq59.2; omega⟩ zq59 dX9_init_18 (fun q59 H hq59 hH hc => ?_)
  obtain ⟨σ60, eσ60⟩ : ∃ z, z = newA σ58 q59 120 64 := ⟨_, rfl⟩
  have h := h q59 hq59 σ60 eσ60
  have hH : Hd D cA A s (newA σ58 q59 120 64) H locs := hH
  have hc : CB n0 s0 (newA σ58 q59 120 64) := hc
  show W p l e R s m args below meth c H locs (gc (newA σ58 q59 120 64) - n0) (gs (newA σ58 q59 120 64) - s0) QM _
  rw [← eσ60] at hH hc ⊢
  have hGσ60 : RG σ60 := by rw [eσ60]; exact hGσ58.newA
  have hYσ60 : TY σ60 := by rw [eσ60]; exact hYσ58.newA hq59 (by have : gs σ58 + 64 ≤ 7000000 := zq59.2; omega)
  have xσ60 : Ext σ58 σ60 := by rw [eσ60]; exact Ext.newA hq59
  have kq59 : kO σ60 q59 120 := by rw [eσ60]; exact kO.newA
  obtain ⟨σ61, eσ61⟩ : ∃ z, z = pP σ60 th 3 (some q59) := ⟨_, rfl⟩
  have h := h σ61 eσ61
  refine W.eq (g2 := F0 m 21 ls [va_rf (some q59), .ref th]) (rfl) ?_
  refine f_putF B hH (hth.up (xσ56.trans (xσ57.trans (xσ58.trans xσ60)))) (by decide) rfl wu_X9 tyX9 tyX9_ok nmX9 3 (by decide) wf_X9_20 rfl (r := (some q59)) (ty := .array (.object "StreamHouse$Task")) rfl (hin9 rfl) rfl rfl rfl (nrA _ _) (ftA _ _) dX9_init_21 (fun H locs hH => ?_)
  have hH : Hd D cA A s (pP σ60 th 3 (some q59)) H locs := hH
  rw [← eσ61] at hH
  have hGσ61 : RG σ61 := by rw [eσ61]; exact hGσ60.pP
  have hYσ61 : TY σ61 := by rw [eσ61]; exact hYσ60.pP (hth.up (xσ56.trans (xσ57.trans (xσ58.trans xσ60)))) (d := 120) (by decide) (tyS1 kq59)
  have xσ61 : Ext σ60 σ61 := by rw [eσ61]; exact Ext.pP
  have hc : CB n0 s0 σ61 := by rw [eσ61]; exact hc
  rw [show gc σ60 = gc σ61 by rw [eσ61]; try rfl, show gs σ60 = gs σ61 by rw [eσ61]; try rfl]
  refine lv_aload_n B.1 B.2.1 dX9_init_24 rfl (lv_at hl 0 rfl) ?_
  refine lv_sipush (v := i32 512) B.1 B.2.1 dX9_init_25 (by decide) ?_
  obtain ⟨zq62, h⟩ := h
  refine c_newR B hH hc K.2.2.1 (C := RX2) (k9 := 112) (t0 := 5) (by decide) K.2.1.2.2.1 (List.mem_of_getElem? (l := aoL) (i := 1) rfl) wx_X9_24 (n := (512 : Int)) ⟨(by omega), by have : gs σ61 + 512 ≤ 7000000 := zq62.2; omega⟩ zq62 dX9_init_28 (fun q62 H hq62 hH hc => ?_)
  obtain ⟨σ63, eσ63⟩ : ∃ z, z = newA σ61 q62 112 512 := ⟨_, rfl⟩
  have h := h q62 hq62 σ63 eσ63
  have hH : Hd D cA A s (newA σ61 q62 112 512) H locs := hH
  have hc : CB n0 s0 (newA σ61 q62 112 512) := hc
  show W p l e R s m args below meth c H locs (gc (newA σ61 q62 112 512) - n0) (gs (newA σ61 q62 112 512) - s0) QM _
  rw [← eσ63] at hH hc ⊢
  have hGσ63 : RG σ63 := by rw [eσ63]; exact hGσ61.newA
  have hYσ63 : TY σ63 := by rw [eσ63]; exact hYσ61.newA hq62 (by have : gs σ61 + 512 ≤ 7000000 := zq62.2; omega)
  have xσ63 : Ext σ61 σ63 := by rw [eσ63]; exact Ext.newA hq62
  have kq62 : kO σ63 q62 112 := by rw [eσ63]; exact kO.newA
  obtain ⟨σ64, eσ64⟩ : ∃ z, z = pP σ63 th 4 (some q62) := ⟨_, rfl⟩
  have h := h σ64 eσ64
  refine W.eq (g2 := F0 m 31 ls [va_rf (some q62), .ref th]) (rfl) ?_
  refine f_putF B hH (hth.up (xσ56.trans (xσ57.trans (xσ58.trans (xσ60.trans (xσ61.trans xσ63)))))) (by decide) rfl wu_X9 tyX9 tyX9_ok nmX9 4 (by decide) wf_X9_26 rfl (r := (some q62)) (ty := .array (.object "StreamHouse$Channel")) rfl (hin9 rfl) rfl rfl rfl (nrA _ _) (ftA _ _) dX9_init_31 (fun H locs hH => ?_)
  have hH : Hd D cA A s (pP σ63 th 4 (some q62)) H locs := hH
  rw [← eσ64] at hH
  have hGσ64 : RG σ64 := by rw [eσ64]; exact hGσ63.pP
  have hYσ64 : TY σ64 := by rw [eσ64]; exact hYσ63.pP (hth.up (xσ56.trans (xσ57.trans (xσ58.trans (xσ60.trans (xσ61.trans xσ63)))))) (d := 112) (by decide) (tyS1 kq62)
  have xσ64 : Ext σ63 σ64 := by rw [eσ64]; exact Ext.pP
  have hc : CB n0 s0 σ64 := by rw [eσ64]; exact hc
  rw [show gc σ63 = gc σ64 by rw [eσ64]; try rfl, show gs σ63 = gs σ64 by rw [eσ64]; try rfl]
  refine lv_aload_n B.1 B.2.1 dX9_init_34 rfl (lv_at hl 0 rfl) ?_
  refine lv_bipush (v := i32 17) B.1 B.2.1 dX9_init_35 (by decide) ?_
  obtain ⟨zq65, h⟩ := h
  refine c_newI B K.2.1 hH hc K.2.2.1 wa_100 (n := (17 : Int)) ⟨(by omega), by have : gs σ64 + 17 ≤ 7000000 := zq65.2; omega⟩ zq65 dX9_init_37 (fun q65 H hq65 hH hc => ?_)
  obtain ⟨σ66, eσ66⟩ : ∃ z, z = newA σ64 q65 100 17 := ⟨_, rfl⟩
  have h := h q65 hq65 σ66 eσ66
  have hH : Hd D cA A s (newA σ64 q65 100 17) H locs := hH
  have hc : CB n0 s0 (newA σ64 q65 100 17) := hc
  show W p l e R s m args below meth c H locs (gc (newA σ64 q65 100 17) - n0) (gs (newA σ64 q65 100 17) - s0) QM _
  rw [← eσ66] at hH hc ⊢
  have hGσ66 : RG σ66 := by rw [eσ66]; exact hGσ64.newA
  have hYσ66 : TY σ66 := by rw [eσ66]; exact hYσ64.newA hq65 (by have : gs σ64 + 17 ≤ 7000000 := zq65.2; omega)
  have xσ66 : Ext σ64 σ66 := by rw [eσ66]; exact Ext.newA hq65
  have kq65 : kO σ66 q65 100 := by rw [eσ66]; exact kO.newA
  obtain ⟨σ67, eσ67⟩ : ∃ z, z = pP σ66 th 5 (some q65) := ⟨_, rfl⟩
  have h := h σ67 eσ67
  refine W.eq (g2 := F0 m 39 ls [va_rf (some q65), .ref th]) (rfl) ?_
  refine f_putF B hH (hth.up (xσ56.trans (xσ57.trans (xσ58.trans (xσ60.trans (xσ61.trans (xσ63.trans (xσ64.trans xσ66)))))))) (by decide) rfl wu_X9 tyX9 tyX9_ok nmX9 5 (by decide) wf_X9_30 rfl (r := (some q65)) (ty := .array .int) rfl (hin9 rfl) rfl rfl rfl (nrA _ _) (ftA _ _) dX9_init_39 (fun H locs hH => ?_)
  have hH : Hd D cA A s (pP σ66 th 5 (some q65)) H locs := hH
  rw [← eσ67] at hH
  have hGσ67 : RG σ67 := by rw [eσ67]; exact hGσ66.pP
  have hYσ67 : TY σ67 := by rw [eσ67]; exact hYσ66.pP (hth.up (xσ56.trans (xσ57.trans (xσ58.trans (xσ60.trans (xσ61.trans (xσ63.trans (xσ64.trans xσ66)))))))) (d := 100) (by decide) (tyS1 kq65)
  have xσ67 : Ext σ66 σ67 := by rw [eσ67]; exact Ext.pP
  have hc : CB n0 s0 σ67 := by rw [eσ67]; exact hc
  rw [show gc σ66 = gc σ67 by rw [eσ67]; try rfl, show gs σ66 = gs σ67 by rw [eσ67]; try rfl]
  refine lv_aload_n B.1 B.2.1 dX9_init_42 rfl (lv_at hl 0 rfl) ?_
  refine lv_iconst (v := i32 4) B.1 B.2.1 dX9_init_43 (by decide) ?_
  refine c_SN B hH hl hc K.2.2.1 (As := [.int (i32 4)]) (ok_X12_newChains hl9 K.2.1 hX0 σ67 4 (by unfold rng; omega) hGσ67 hYσ67 h) (fun _ _ h9 => hX0 _ _ h9.1) (List.mem_of_getElem? (l := nmL) (i := 4) rfl) wq_X12_newChains 1 hd_X12_newChains ⟨Nat.le_trans (Nat.le_of_ble_eq_true rfl) K.2.2.2.1, Nat.le_trans (Nat.le_of_ble_eq_true rfl) K.2.2.2.2.1⟩ rfl (rest := [.ref th]) rfl (Nat.le_of_ble_eq_true rfl) dX9_init_44 (fun σ68 w hq => ?_)
  obtain ⟨r69, rfl, tr69, h, hGσ68, hYσ68, xσ68⟩ := hq
  have h := h xσ68 tr69
  intro H locs ls hH hl hc
  refine W.eq (g2 := F0 m 47 ls [va_rf r69, .ref th]) (rfl) ?_
  try dsimp only at h
  obtain ⟨σ70, eσ70⟩ : ∃ z, z = pP σ68 th 6 r69 := ⟨_, rfl⟩
  have h := h σ70 eσ70
  refine W.eq (g2 := F0 m 47 ls [va_rf r69, .ref th]) (rfl) ?_
  refine f_putF B hH (hth.up (xσ56.trans (xσ57.trans (xσ58.trans (xσ60.trans (xσ61.trans (xσ63.trans (xσ64.trans (xσ66.trans (xσ67.trans xσ68)))))))))) (by decide) rfl wu_X9 tyX9 tyX9_ok nmX9 6 (by decide) wf_X9_38 rfl (r := r69) (ty := .array (.object "StreamHouse$Chain")) rfl (hin9 rfl) rfl rfl rfl (nrA _ _) (ftA _ _) dX9_init_47 (fun H locs hH => ?_)
  have hH : Hd D cA A s (pP σ68 th 6 r69) H locs := hH
  rw [← eσ70] at hH
  have hGσ70 : RG σ70 := by rw [eσ70]; exact hGσ68.pP
  have hYσ70 : TY σ70 := by rw [eσ70]; exact hYσ68.pP (hth.up (xσ56.trans (xσ57.trans (xσ58.trans (xσ60.trans (xσ61.trans (xσ63.trans (xσ64.trans (xσ66.trans (xσ67.trans xσ68)))))))))) (d := 111) (by decide) tr69
  have xσ70 : Ext σ68 σ70 := by rw [eσ70]; exact Ext.pP
  have hc : CB n0 s0 σ70 := by rw [eσ70]; exact hc
  rw [show gc σ68 = gc σ70 by rw [eσ70]; try rfl, show gs σ68 = gs σ70 by rw [eσ70]; try rfl]
  refine lv_aload_n B.1 B.2.1 dX9_init_50 rfl (lv_at hl 0 rfl) ?_
  refine lv_iconst (v := i32 4) B.1 B.2.1 dX9_init_51 (by decide) ?_
  refine c_SN B hH hl hc K.2.2.1 (As := [.int (i32 4)]) (ok_X12_newChains hl9 K.2.1 hX0 σ70 4 (by unfold rng; omega) hGσ70 hYσ70 h) (fun _ _ h9 => hX0 _ _ h9.1) (List.mem_of_getElem? (l := nmL) (i := 4) rfl) wq_X12_newChains 1 hd_X12_newChains ⟨Nat.le_trans (Nat.le_of_ble_eq_true rfl) K.2.2.2.1, Nat.le_trans (Nat.le_of_ble_eq_true rfl) K.2.2.2.2.1⟩ rfl (rest := [.ref th]) rfl (Nat.le_of_ble_eq_true rfl) dX9_init_52 (fun σ71 w hq => ?_)
  obtain ⟨r72, rfl, tr72, h, hGσ71, hYσ71, xσ71⟩ := hq
  have h := h xσ71 tr72
  intro H locs ls hH hl hc
  refine W.eq (g2 := F0 m 55 ls [va_rf r72, .ref th]) (rfl) ?_
  try dsimp only at h
  obtain ⟨σ73, eσ73⟩ : ∃ z, z = pP σ71 th 7 r72 := ⟨_, rfl⟩
  have h := h σ73 eσ73
  refine W.eq (g2 := F0 m 55 ls [va_rf r72, .ref th]) (rfl) ?_
  refine f_putF B hH (hth.up (xσ56.trans (xσ57.trans (xσ58.trans (xσ60.trans (xσ61.trans (xσ63.trans (xσ64.trans (xσ66.trans (xσ67.trans (xσ68.trans (xσ70.trans xσ71)))))))))))) (by decide) rfl wu_X9 tyX9 tyX9_ok nmX9 7 (by decide) wf_X9_42 rfl (r := r72) (ty := .array (.object "StreamHouse$Chain")) rfl (hin9 rfl) rfl rfl rfl (nrA _ _) (ftA _ _) dX9_init_55 (fun H locs hH => ?_)
  have hH : Hd D cA A s (pP σ71 th 7 r72) H locs := hH
  rw [← eσ73] at hH
  have hGσ73 : RG σ73 := by rw [eσ73]; exact hGσ71.pP
  have hYσ73 : TY σ73 := by rw [eσ73]; exact hYσ71.pP (hth.up (xσ56.trans (xσ57.trans (xσ58.trans (xσ60.trans (xσ61.trans (xσ63.trans (xσ64.trans (xσ66.trans (xσ67.trans (xσ68.trans (xσ70.trans xσ71)))))))))))) (d := 111) (by decide) tr72
  have xσ73 : Ext σ71 σ73 := by rw [eσ73]; exact Ext.pP
  have hc : CB n0 s0 σ73 := by rw [eσ73]; exact hc
  rw [show gc σ71 = gc σ73 by rw [eσ73]; try rfl, show gs σ71 = gs σ73 by rw [eσ73]; try rfl]
  refine lv_aload_n B.1 B.2.1 dX9_init_58 rfl (lv_at hl 0 rfl) ?_
  refine lv_iconst (v := i32 4) B.1 B.2.1 dX9_init_59 (by decide) ?_
  refine c_SN B hH hl hc K.2.2.1 (As := [.int (i32 4)]) (ok_X12_newChains hl9 K.2.1 hX0 σ73 4 (by unfold rng; omega) hGσ73 hYσ73 h) (fun _ _ h9 => hX0 _ _ h9.1) (List.mem_of_getElem? (l := nmL) (i := 4) rfl) wq_X12_newChains 1 hd_X12_newChains ⟨Nat.le_trans (Nat.le_of_ble_eq_true rfl) K.2.2.2.1, Nat.le_trans (Nat.le_of_ble_eq_true rfl) K.2.2.2.2.1⟩ rfl (rest := [.ref th]) rfl (Nat.le_of_ble_eq_true rfl) dX9_init_60 (fun σ74 w hq => ?_)
  obtain ⟨r75, rfl, tr75, h, hGσ74, hYσ74, xσ74⟩ := hq
  have h := h xσ74 tr75
  intro H locs ls hH hl hc
  refine W.eq (g2 := F0 m 63 ls [va_rf r75, .ref th]) (rfl) ?_
  try dsimp only at h
  obtain ⟨σ76, eσ76⟩ : ∃ z, z = pP σ74 th 8 r75 := ⟨_, rfl⟩
  have h := h σ76 eσ76
  refine W.eq (g2 := F0 m 63 ls [va_rf r75, .ref th]) (rfl) ?_
  refine f_putF B hH (hth.up (xσ56.trans (xσ57.trans (xσ58.trans (xσ60.trans (xσ61.trans (xσ63.trans (xσ64.trans (xσ66.trans (xσ67.trans (xσ68.trans (xσ70.trans (xσ71.trans (xσ73.trans xσ74)))))))))))))) (by decide) rfl wu_X9 tyX9 tyX9_ok nmX9 8 (by decide) wf_X9_45 rfl (r := r75) (ty := .array (.object "StreamHouse$Chain")) rfl (hin9 rfl) rfl rfl rfl (nrA _ _) (ftA _ _) dX9_init_63 (fun H locs hH => ?_)
  have hH : Hd D cA A s (pP σ74 th 8 r75) H locs := hH
  rw [← eσ76] at hH
  have hGσ76 : RG σ76 := by rw [eσ76]; exact hGσ74.pP
  have hYσ76 : TY σ76 := by rw [eσ76]; exact hYσ74.pP (hth.up (xσ56.trans (xσ57.trans (xσ58.trans (xσ60.trans (xσ61.trans (xσ63.trans (xσ64.trans (xσ66.trans (xσ67.trans (xσ68.trans (xσ70.trans (xσ71.trans (xσ73.trans xσ74)))))))))))))) (d := 111) (by decide) tr75
  have xσ76 : Ext σ74 σ76 := by rw [eσ76]; exact Ext.pP
  have hc : CB n0 s0 σ76 := by rw [eσ76]; exact hc
  rw [show gc σ74 = gc σ76 by rw [eσ76]; try rfl, show gs σ74 = gs σ76 by rw [eσ76]; try rfl]
  refine lv_aload_n B.1 B.2.1 dX9_init_66 rfl (lv_at hl 0 rfl) ?_
  refine lv_aload_nQ B.1 B.2.1 dX9_init_67 rfl (lv_at hl 1 rfl) ?_
  obtain ⟨σ77, eσ77⟩ : ∃ z, z = pP σ76 th 0 v1 := ⟨_, rfl⟩
  have h := h σ77 eσ77
  refine W.eq (g2 := F0 m 68 ls [va_rf v1, .ref th]) (rfl) ?_
  refine f_putF B hH (hth.up (xσ56.trans (xσ57.trans (xσ58.trans (xσ60.trans (xσ61.trans (xσ63.trans (xσ64.trans (xσ66.trans (xσ67.trans (xσ68.trans (xσ70.trans (xσ71.trans (xσ73.trans (xσ74.trans xσ76))))))))))))))) (by decide) rfl wu_X9 tyX9 tyX9_ok nmX9 0 (by decide) wf_X9_48 rfl (r := v1) (ty := .object "StreamHouse$Pool") rfl (hin9 rfl) rfl rfl rfl (nrO _ _) (ftO _ _) dX9_init_68 (fun H locs hH => ?_)
  have hH : Hd D cA A s (pP σ76 th 0 v1) H locs := hH
  rw [← eσ77] at hH
  have hGσ77 : RG σ77 := by rw [eσ77]; exact hGσ76.pP
  have hYσ77 : TY σ77 := by rw [eσ77]; exact hYσ76.pP (hth.up (xσ56.trans (xσ57.trans (xσ58.trans (xσ60.trans (xσ61.trans (xσ63.trans (xσ64.trans (xσ66.trans (xσ67.trans (xσ68.trans (xσ70.trans (xσ71.trans (xσ73.trans (xσ74.trans xσ76))))))))))))))) (d := 8) (by decide) (g1.up (xσ56.trans (xσ57.trans (xσ58.trans (xσ60.trans (xσ61.trans (xσ63.trans (xσ64.trans (xσ66.trans (xσ67.trans (xσ68.trans (xσ70.trans (xσ71.trans (xσ73.trans (xσ74.trans xσ76)))))))))))))))
  have xσ77 : Ext σ76 σ77 := by rw [eσ77]; exact Ext.pP
  have hc : CB n0 s0 σ77 := by rw [eσ77]; exact hc
  rw [show gc σ76 = gc σ77 by rw [eσ77]; try rfl, show gs σ76 = gs σ77 by rw [eσ77]; try rfl]
  refine lv_aload_n B.1 B.2.1 dX9_init_71 rfl (lv_at hl 0 rfl) ?_
  obtain ⟨zq78, h⟩ := h
  refine c_new B hH hc K.2.2.1 (ci := 11) rfl (by decide) wu_X11 tyX11 tyX11_ok (by decide) wn_X9_52 zq78 dX9_init_72 (fun q78 H hq78 hH hc => ?_)
  obtain ⟨σ79, eσ79⟩ : ∃ z, z = new1 σ77 q78 11 6 := ⟨_, rfl⟩
  have h := h q78 hq78 σ79 eσ79
  rw [← eσ79] at hH hc ⊢
  have hGσ79 : RG σ79 := by rw [eσ79]; exact hGσ77.new1
  have hYσ79 : TY σ79 := by rw [eσ79]; exact hYσ77.new1 hq78
  have xσ79 : Ext σ77 σ79 := by rw [eσ79]; exact Ext.new1 hq78
  have kq78 : kO σ79 q78 11 := by rw [eσ79]; exact kO.new1
  refine lv_dup B.1 B.2.1 dX9_init_75 rfl ?_
  refine lv_aload_nQ B.1 B.2.1 dX9_init_76 rfl (lv_at hl 1 rfl) ?_
  refine lv_sipush (v := i32 4000) B.1 B.2.1 dX9_init_77 (by decide) ?_
  refine W.eq (g2 := F0 m 80 ls [.int (i32 4000), va_rf v1, .ref q78, .ref q78, .ref th]) (rfl) ?_
  refine c_I B hH hl hc K.2.2.1 (As := [va_rf v1, .int (i32 4000)]) (ok_X11_init hl9 K.2.1 hX0 σ79 q78 v1 4000 (g1.up (xσ56.trans (xσ57.trans (xσ58.trans (xσ60.trans (xσ61.trans (xσ63.trans (xσ64.trans (xσ66.trans (xσ67.trans (xσ68.trans (xσ70.trans (xσ71.trans (xσ73.trans (xσ74.trans (xσ76.trans (xσ77.trans xσ79))))))))))))))))) (by unfold rng; omega) kq78 hGσ79 hYσ79 h) (fun _ _ h9 => hX0 _ _ h9.1) rfl wi_X9_54 2 hd_X11_init ⟨Nat.le_trans (Nat.le_of_ble_eq_true rfl) K.2.2.2.1, Nat.le_trans (Nat.le_of_ble_eq_true rfl) K.2.2.2.2.1⟩ rfl (rest := [.ref q78, .ref th]) rfl (Nat.le_of_ble_eq_true rfl) dX9_init_80 (fun σ80 w hq => ?_)
  obtain ⟨rfl, h, hGσ80, hYσ80, xσ80⟩ := hq
  have h := h xσ80
  intro H locs ls hH hl hc
  refine W.eq (g2 := F0 m 83 ls [.ref q78, .ref th]) (rfl) ?_
  try dsimp only at h
  obtain ⟨σ81, eσ81⟩ : ∃ z, z = pP σ80 th 1 (some q78) := ⟨_, rfl⟩
  have h := h σ81 eσ81
  refine W.eq (g2 := F0 m 83 ls [va_rf (some q78), .ref th]) (rfl) ?_
  refine f_putF B hH (hth.up (xσ56.trans (xσ57.trans (xσ58.trans (xσ60.trans (xσ61.trans (xσ63.trans (xσ64.trans (xσ66.trans (xσ67.trans (xσ68.trans (xσ70.trans (xσ71.trans (xσ73.trans (xσ74.trans (xσ76.trans (xσ77.trans (xσ79.trans xσ80)))))))))))))))))) (by decide) rfl wu_X9 tyX9 tyX9_ok nmX9 1 (by decide) wf_X9_57 rfl (r := (some q78)) (ty := .object "StreamHouse$Works") rfl (hin9 rfl) rfl rfl rfl (nrO _ _) (ftO _ _) dX9_init_83 (fun H locs hH => ?_)
  have hH : Hd D cA A s (pP σ80 th 1 (some q78)) H locs := hH
  rw [← eσ81] at hH
  have hGσ81 : RG σ81 := by rw [eσ81]; exact hGσ80.pP
  have hYσ81 : TY σ81 := by rw [eσ81]; exact hYσ80.pP (hth.up (xσ56.trans (xσ57.trans (xσ58.trans (xσ60.trans (xσ61.trans (xσ63.trans (xσ64.trans (xσ66.trans (xσ67.trans (xσ68.trans (xσ70.trans (xσ71.trans (xσ73.trans (xσ74.trans (xσ76.trans (xσ77.trans (xσ79.trans xσ80)))))))))))))))))) (d := 11) (by decide) (tyS1 (kq78.up xσ80))
  have xσ81 : Ext σ80 σ81 := by rw [eσ81]; exact Ext.pP
  have hc : CB n0 s0 σ81 := by rw [eσ81]; exact hc
  rw [show gc σ80 = gc σ81 by rw [eσ81]; try rfl, show gs σ80 = gs σ81 by rw [eσ81]; try rfl]
  exact hQ _ _ _ _ _ dX9_init_86 hH hc h hGσ81 hYσ81 (((((((((((((((((((hE.trans xσ56).trans xσ57).trans xσ58).trans xσ60).trans xσ61).trans xσ63).trans xσ64).trans xσ66).trans xσ67).trans xσ68).trans xσ70).trans xσ71).trans xσ73).trans xσ74).trans xσ76).trans xσ77).trans xσ79).trans xσ80).trans xσ81)
theorem ok_X9_init (hl0 : l.stackTraces = false) (hT : TyC cA tys) {Q : Sg → Unit → Prop} {X : Sg → String → Prop} (hX0 : ∀ σ E, ¬ X σ E) (σ : Sg) (th : Nat) (v1 : Option Nat) (g1 : tyV σ 8 v1) (hth : kO σ th 9) (hG : RG σ) (hY : TY σ) (h : wp_X9_init th v1 σ Q X) : Ok l D cA tys A yX9_init (.code yX9_init cX9_init 2 none) 3 54 [.ref th, va_rf v1] σ (QcV σ Q) (QxC σ X) := by
  unfold wp_X9_init at h
  exact oc_V hl0 (by decide) (by cases v1 <;> exact Nat.le_of_ble_eq_true rfl) hT (fun p e R s m args below meth c K hQ hX hTh hin9 H locs ls hH hl hc => a_X9_init_0 K hQ hX hTh hin9 hX0 σ v1 g1 h hG hY (Ext.rfl' σ) hth H locs ls hH (lv_sub (l' := [(0, .ref th), (1, va_rf v1)]) hl [0, 1] (by cases v1 <;> rfl)) hc)
theorem dX12_init_0 : decode cX12_init 0 = .ok (.aload_n 0, 1) := by decide +kernel
theorem dX12_init_1 : decode cX12_init 1 = .ok (.invokespecial 3, 3) := by decide +kernel
theorem dX12_init_4 : decode cX12_init 4 = .ok (.aload_n 0, 1) := by decide +kernel
theorem dX12_init_5 : decode cX12_init 5 = .ok (.sipush 1500, 3) := by decide +kernel
theorem dX12_init_8 : decode cX12_init 8 = .ok (.newarray .byte, 2) := by decide +kernel
theorem dX12_init_10 : decode cX12_init 10 = .ok (.putfield 9, 3) := by decide +kernel
theorem dX12_init_13 : decode cX12_init 13 = .ok (.aload_n 0, 1) := by decide +kernel
theorem dX12_init_14 : decode cX12_init 14 = .ok (.iconst 0, 1) := by decide +kernel
theorem dX12_init_15 : decode cX12_init 15 = .ok (.putfield 13, 3) := by decide +kernel
theorem dX12_init_18 : decode cX12_init 18 = .ok (.aload_n 0, 1) := by decide +kernel
theorem dX12_init_19 : decode cX12_init 19 = .ok (.iconst 0, 1) := by decide +kernel
theorem dX12_init_20 : decode cX12_init 20 = .ok (.putfield 17, 3) := by decide +kernel
theorem dX12_init_23 : decode cX12_init 23 = .ok (.aload_n 0, 1) := by decide +kernel
theorem dX12_init_24 : decode cX12_init 24 = .ok (.new 20, 3) := by decide +kernel
theorem dX12_init_27 : decode cX12_init 27 = .ok (.dup, 1) := by decide +kernel
theorem dX12_init_28 : decode cX12_init 28 = .ok (.invokespecial 22, 3) := by decide +kernel
theorem dX12_init_31 : decode cX12_init 31 = .ok (.putfield 23, 3) := by decide +kernel
theorem dX12_init_34 : decode cX12_init 34 = .ok (.aload_n 0, 1) := by decide +kernel
theorem dX12_init_35 : decode cX12_init 35 = .ok (.new 27, 3) := by decide +kernel
theorem dX12_init_38 : decode cX12_init 38 = .ok (.dup, 1) := by decide +kernel
theorem dX12_init_39 : decode cX12_init 39 = .ok (.invokespecial 29, 3) := by decide +kernel
theorem dX12_init_42 : decode cX12_init 42 = .ok (.putfield 30, 3) := by decide +kernel
theorem dX12_init_45 : decode cX12_init 45 = .ok (.aload_n 0, 1) := by decide +kernel
theorem dX12_init_46 : decode cX12_init 46 = .ok (.new 27, 3) := by decide +kernel
theorem dX12_init_49 : decode cX12_init 49 = .ok (.dup, 1) := by decide +kernel
theorem dX12_init_50 : decode cX12_init 50 = .ok (.invokespecial 29, 3) := by decide +kernel
theorem dX12_init_53 : decode cX12_init 53 = .ok (.putfield 34, 3) := by decide +kernel
theorem dX12_init_56 : decode cX12_init 56 = .ok (.aload_n 0, 1) := by decide +kernel
theorem dX12_init_57 : decode cX12_init 57 = .ok (.new 37, 3) := by decide +kernel
theorem dX12_init_60 : decode cX12_init 60 = .ok (.dup, 1) := by decide +kernel
theorem dX12_init_61 : decode cX12_init 61 = .ok (.invokespecial 39, 3) := by decide +kernel
theorem dX12_init_64 : decode cX12_init 64 = .ok (.putfield 40, 3) := by decide +kernel
theorem dX12_init_67 : decode cX12_init 67 = .ok (.aload_n 0, 1) := by decide +kernel
theorem dX12_init_68 : decode cX12_init 68 = .ok (.new 44, 3) := by decide +kernel
theorem dX12_init_71 : decode cX12_init 71 = .ok (.dup, 1) := by decide +kernel
theorem dX12_init_72 : decode cX12_init 72 = .ok (.aload_n 0, 1) := by decide +kernel
theorem dX12_init_73 : decode cX12_init 73 = .ok (.getfield 40, 3) := by decide +kernel
theorem dX12_init_76 : decode cX12_init 76 = .ok (.invokespecial 46, 3) := by decide +kernel
theorem dX12_init_79 : decode cX12_init 79 = .ok (.putfield 49, 3) := by decide +kernel
theorem dX12_init_82 : decode cX12_init 82 = .ok (.aload_n 0, 1) := by decide +kernel
theorem dX12_init_83 : decode cX12_init 83 = .ok (.new 53, 3) := by decide +kernel
theorem dX12_init_86 : decode cX12_init 86 = .ok (.dup, 1) := by decide +kernel
theorem dX12_init_87 : decode cX12_init 87 = .ok (.aload_n 0, 1) := by decide +kernel
theorem dX12_init_88 : decode cX12_init 88 = .ok (.getfield 40, 3) := by decide +kernel
theorem dX12_init_91 : decode cX12_init 91 = .ok (.invokespecial 55, 3) := by decide +kernel
theorem dX12_init_94 : decode cX12_init 94 = .ok (.putfield 56, 3) := by decide +kernel
theorem dX12_init_97 : decode cX12_init 97 = .ok (.return_, 1) := by decide +kernel
set_option maxRecDepth 20000 in
theorem a_X12_init_0 {Q : Sg → Unit → Prop} {X : Sg → String → Prop} {th : Nat} (K : MD l R p s m args c cX12_init 1 RX12 D cA tys A n0 s0 4 75 []) (hQ : CQV p l e R s m args below meth c cX12_init D cA A n0 s0 QM σi Q) (hX : CX p l e R s m args below meth c 1 D cA A n0 s0 QM σi X) (hTh : CT p l e R s m args below meth c cX12_init 1 D cA A n0 s0 QM σi RX12 X) (hin9 : yX12_init.name = "<init>" → meth.name = "<init>") (hX0 : ∀ σ E, ¬ X σ E) : ∀ (σ : Sg), w_X12_init_0 th Q X σ → RG σ → TY σ → Ext σi σ → kO σ th 12 → JJ p l e R s m args below meth c 1 D cA A n0 s0 QM σ 0 [(0, .ref th)] [] := by
  intro σ h hGσ hYσ hE hth H locs ls hH hl hc
  have B := K.1
  have hl9 := K.2.2.2.2.2.2
  unfold w_X12_init_0 at h
  refine lv_aload_n B.1 B.2.1 dX12_init_0 rfl (lv_at hl 0 rfl) ?_
  refine h_oinit B hl wo_X12_3 (by have := K.2.2.2.1; omega) (by have := K.2.2.2.2.1; omega) dX12_init_1 ?_
  refine lv_aload_n B.1 B.2.1 dX12_init_4 rfl (lv_at hl 0 rfl) ?_
  refine lv_sipush (v := i32 1500) B.1 B.2.1 dX12_init_5 (by decide) ?_
  obtain ⟨zq59, h⟩ := h
  refine c_newB B K.2.1 hH hc K.2.2.1 wa_102 (n := (1500 : Int)) ⟨(by omega), by have : gs σ + 1500 ≤ 7000000 := zq59.2; omega⟩ zq59 dX12_init_8 (fun q59 H hq59 hH hc => ?_)
  obtain ⟨σ60, eσ60⟩ : ∃ z, z = newA σ q59 102 1500 := ⟨_, rfl⟩
  have h := h q59 hq59 σ60 eσ60
  have hH : Hd D cA A s (newA σ q59 102 1500) H locs := hH
  have hc : CB n0 s0 (newA σ q59 102 1500) := hc
  show W p l e R s m args below meth c H locs (gc (newA σ q59 102 1500) - n0) (gs (newA σ q59 102 1500) - s0) QM _
  rw [← eσ60] at hH hc ⊢
  have hGσ60 : RG σ60 := by rw [eσ60]; exact hGσ.newA
  have hYσ60 : TY σ60 := by rw [eσ60]; exact hYσ.newA hq59 (by have : gs σ + 1500 ≤ 7000000 := zq59.2; omega)
  have xσ60 : Ext σ σ60 := by rw [eσ60]; exact Ext.newA hq59
  have kq59 : kO σ60 q59 102 := by rw [eσ60]; exact kO.newA
  obtain ⟨σ61, eσ61⟩ : ∃ z, z = pP σ60 th 0 (some q59) := ⟨_, rfl⟩
  have h := h σ61 eσ61
  refine W.eq (g2 := F0 m 10 ls [va_rf (some q59), .ref th]) (rfl) ?_
  refine f_putF B hH (hth.up xσ60) (by decide) rfl wu_X12 tyX12 tyX12_ok nmX12 0 (by decide) wf_X12_9 rfl (r := (some q59)) (ty := .array .byte) rfl (hin9 rfl) rfl rfl rfl (nrA _ _) (ftA _ _) dX12_init_10 (fun H locs hH => ?_)
  have hH : Hd D cA A s (pP σ60 th 0 (some q59)) H locs := hH
  rw [← eσ61] at hH
  have hGσ61 : RG σ61 := by rw [eσ61]; exact hGσ60.pP
  have hYσ61 : TY σ61 := by rw [eσ61]; exact hYσ60.pP (hth.up xσ60) (d := 102) (by decide) (tyS1 kq59)
  have xσ61 : Ext σ60 σ61 := by rw [eσ61]; exact Ext.pP
  have hc : CB n0 s0 σ61 := by rw [eσ61]; exact hc
  rw [show gc σ60 = gc σ61 by rw [eσ61]; try rfl, show gs σ60 = gs σ61 by rw [eσ61]; try rfl]
  refine lv_aload_n B.1 B.2.1 dX12_init_13 rfl (lv_at hl 0 rfl) ?_
  refine lv_iconst (v := i32 0) B.1 B.2.1 dX12_init_14 (by decide) ?_
  obtain ⟨σ62, eσ62⟩ : ∃ z, z = pI σ61 th 1 0 := ⟨_, rfl⟩
  have h := h σ62 eσ62
  refine f_puti B hH (hth.up (xσ60.trans xσ61)) (by decide) rfl wu_X12 tyX12 tyX12_ok nmX12 1 (by decide) wf_X12_13 rfl (ty := .int) rfl rfl rfl rfl rfl dX12_init_15 (fun H locs hH => ?_)
  have hH : Hd D cA A s (pI σ61 th 1 0) H locs := hH
  rw [← eσ62] at hH
  have hGσ62 : RG σ62 := by rw [eσ62]; exact hGσ61.pI (by unfold rng; omega)
  have hYσ62 : TY σ62 := by rw [eσ62]; exact hYσ61.pI
  have xσ62 : Ext σ61 σ62 := by rw [eσ62]; exact Ext.pI
  have hc : CB n0 s0 σ62 := by rw [eσ62]; exact hc
  rw [show gc σ61 = gc σ62 by rw [eσ62]; try rfl, show gs σ61 = gs σ62 by rw [eσ62]; try rfl]
  refine lv_aload_n B.1 B.2.1 dX12_init_18 rfl (lv_at hl 0 rfl) ?_
  refine lv_iconst (v := i32 0) B.1 B.2.1 dX12_init_19 (by decide) ?_
  obtain ⟨σ63, eσ63⟩ : ∃ z, z = pI σ62 th 2 0 := ⟨_, rfl⟩
  have h := h σ63 eσ63
  refine f_puti B hH (hth.up (xσ60.trans (xσ61.trans xσ62))) (by decide) rfl wu_X12 tyX12 tyX12_ok nmX12 2 (by decide) wf_X12_17 rfl (ty := .int) rfl rfl rfl rfl rfl dX12_init_20 (fun H locs hH => ?_)
  have hH : Hd D cA A s (pI σ62 th 2 0) H locs := hH
  rw [← eσ63] at hH
  have hGσ63 : RG σ63 := by rw [eσ63]; exact hGσ62.pI (by unfold rng; omega)
  have hYσ63 : TY σ63 := by rw [eσ63]; exact hYσ62.pI
  have xσ63 : Ext σ62 σ63 := by rw [eσ63]; exact Ext.pI
  have hc : CB n0 s0 σ63 := by rw [eσ63]; exact hc
  rw [show gc σ62 = gc σ63 by rw [eσ63]; try rfl, show gs σ62 = gs σ63 by rw [eσ63]; try rfl]
  refine lv_aload_n B.1 B.2.1 dX12_init_23 rfl (lv_at hl 0 rfl) ?_
  obtain ⟨zq64, h⟩ := h
  refine c_new B hH hc K.2.2.1 (ci := 6) rfl (by decide) wu_X6 tyX6 tyX6_ok (by decide) wn_X12_20 zq64 dX12_init_24 (fun q64 H hq64 hH hc => ?_)
  obtain ⟨σ65, eσ65⟩ : ∃ z, z = new1 σ63 q64 6 9 := ⟨_, rfl⟩
  have h := h q64 hq64 σ65 eσ65
  rw [← eσ65] at hH hc ⊢
  have hGσ65 : RG σ65 := by rw [eσ65]; exact hGσ63.new1
  have hYσ65 : TY σ65 := by rw [eσ65]; exact hYσ63.new1 hq64
  have xσ65 : Ext σ63 σ65 := by rw [eσ65]; exact Ext.new1 hq64
  have kq64 : kO σ65 q64 6 := by rw [eσ65]; exact kO.new1
  refine lv_dup B.1 B.2.1 dX12_init_27 rfl ?_
  refine W.eq (g2 := F0 m 28 ls [.ref q64, .ref q64, .ref th]) (rfl) ?_
  refine c_IN B hH hl hc K.2.2.1 (As := []) (ok_X6_init hl9 K.2.1 hX0 σ65 q64 kq64 hGσ65 hYσ65 h) (fun _ _ h9 => hX0 _ _ h9.1) (List.mem_of_getElem? (l := nmL) (i := 0) rfl) rfl wq_X6_init 0 hd_X6_init ⟨Nat.le_trans (Nat.le_of_ble_eq_true rfl) K.2.2.2.1, Nat.le_trans (Nat.le_of_ble_eq_true rfl) K.2.2.2.2.1⟩ rfl (rest := [.ref q64, .ref th]) rfl (Nat.le_of_ble_eq_true rfl) dX12_init_28 (fun σ66 w hq => ?_)
  obtain ⟨rfl, h, hGσ66, hYσ66, xσ66⟩ := hq
  have h := h xσ66
  intro H locs ls hH hl hc
  refine W.eq (g2 := F0 m 31 ls [.ref q64, .ref th]) (rfl) ?_
  try dsimp only at h
  obtain ⟨σ67, eσ67⟩ : ∃ z, z = pP σ66 th 3 (some q64) := ⟨_, rfl⟩
  have h := h σ67 eσ67
  refine W.eq (g2 := F0 m 31 ls [va_rf (some q64), .ref th]) (rfl) ?_
  refine f_putF B hH (hth.up (xσ60.trans (xσ61.trans (xσ62.trans (xσ63.trans (xσ65.trans xσ66)))))) (by decide) rfl wu_X12 tyX12 tyX12_ok nmX12 3 (by decide) wf_X12_23 rfl (r := (some q64)) (ty := .object "StreamHouse$Parser") rfl (hin9 rfl) rfl rfl rfl (nrO _ _) (ftO _ _) dX12_init_31 (fun H locs hH => ?_)
  have hH : Hd D cA A s (pP σ66 th 3 (some q64)) H locs := hH
  rw [← eσ67] at hH
  have hGσ67 : RG σ67 := by rw [eσ67]; exact hGσ66.pP
  have hYσ67 : TY σ67 := by rw [eσ67]; exact hYσ66.pP (hth.up (xσ60.trans (xσ61.trans (xσ62.trans (xσ63.trans (xσ65.trans xσ66)))))) (d := 6) (by decide) (tyS1 (kq64.up xσ66))
  have xσ67 : Ext σ66 σ67 := by rw [eσ67]; exact Ext.pP
  have hc : CB n0 s0 σ67 := by rw [eσ67]; exact hc
  rw [show gc σ66 = gc σ67 by rw [eσ67]; try rfl, show gs σ66 = gs σ67 by rw [eσ67]; try rfl]
  refine lv_aload_n B.1 B.2.1 dX12_init_34 rfl (lv_at hl 0 rfl) ?_
  obtain ⟨zq68, h⟩ := h
  refine c_new B hH hc K.2.2.1 (ci := 4) rfl (by decide) wu_X4 tyX4 tyX4_ok (by decide) wn_X12_27 zq68 dX12_init_35 (fun q68 H hq68 hH hc => ?_)
  obtain ⟨σ69, eσ69⟩ : ∃ z, z = new1 σ67 q68 4 14 := ⟨_, rfl⟩
  have h := h q68 hq68 σ69 eσ69
  rw [← eσ69] at hH hc ⊢
  have hGσ69 : RG σ69 := by rw [eσ69]; exact hGσ67.new1
  have hYσ69 : TY σ69 := by rw [eσ69]; exact hYσ67.new1 hq68
  have xσ69 : Ext σ67 σ69 := by rw [eσ69]; exact Ext.new1 hq68
  have kq68 : kO σ69 q68 4 := by rw [eσ69]; exact kO.new1
  refine lv_dup B.1 B.2.1 dX12_init_38 rfl ?_
  refine W.eq (g2 := F0 m 39 ls [.ref q68, .ref q68, .ref th]) (rfl) ?_
  refine c_I B hH hl hc K.2.2.1 (As := []) (ok_X4_init hl9 K.2.1 hX0 σ69 q68 kq68 hGσ69 hYσ69 h) (fun _ _ h9 => hX0 _ _ h9.1) rfl wi_X12_29 0 hd_X4_init ⟨Nat.le_trans (Nat.le_of_ble_eq_true rfl) K.2.2.2.1, Nat.le_trans (Nat.le_of_ble_eq_true rfl) K.2.2.2.2.1⟩ rfl (rest := [.ref q68, .ref th]) rfl (Nat.le_of_ble_eq_true rfl) dX12_init_39 (fun σ70 w hq => ?_)
  obtain ⟨rfl, h, hGσ70, hYσ70, xσ70⟩ := hq
  have h := h xσ70
  intro H locs ls hH hl hc
  refine W.eq (g2 := F0 m 42 ls [.ref q68, .ref th]) (rfl) ?_
  try dsimp only at h
  obtain ⟨σ71, eσ71⟩ : ∃ z, z = pP σ70 th 4 (some q68) := ⟨_, rfl⟩
  have h := h σ71 eσ71
  refine W.eq (g2 := F0 m 42 ls [va_rf (some q68), .ref th]) (rfl) ?_
  refine f_putp B hH (hth.up (xσ60.trans (xσ61.trans (xσ62.trans (xσ63.trans (xσ65.trans (xσ66.trans (xσ67.trans (xσ69.trans xσ70))))))))) (by decide) rfl wu_X12 tyX12 tyX12_ok nmX12 4 (by decide) wf_X12_30 rfl (r := (some q68)) (ty := .object "StreamHouse$Job") rfl rfl rfl (nrO _ _) (ftO _ _) dX12_init_42 (fun H locs hH => ?_)
  have hH : Hd D cA A s (pP σ70 th 4 (some q68)) H locs := hH
  rw [← eσ71] at hH
  have hGσ71 : RG σ71 := by rw [eσ71]; exact hGσ70.pP
  have hYσ71 : TY σ71 := by rw [eσ71]; exact hYσ70.pP (hth.up (xσ60.trans (xσ61.trans (xσ62.trans (xσ63.trans (xσ65.trans (xσ66.trans (xσ67.trans (xσ69.trans xσ70))))))))) (d := 4) (by decide) (tyS1 (kq68.up xσ70))
  have xσ71 : Ext σ70 σ71 := by rw [eσ71]; exact Ext.pP
  have hc : CB n0 s0 σ71 := by rw [eσ71]; exact hc
  rw [show gc σ70 = gc σ71 by rw [eσ71]; try rfl, show gs σ70 = gs σ71 by rw [eσ71]; try rfl]
  refine lv_aload_n B.1 B.2.1 dX12_init_45 rfl (lv_at hl 0 rfl) ?_
  obtain ⟨zq72, h⟩ := h
  refine c_new B hH hc K.2.2.1 (ci := 4) rfl (by decide) wu_X4 tyX4 tyX4_ok (by decide) wn_X12_27 zq72 dX12_init_46 (fun q72 H hq72 hH hc => ?_)
  obtain ⟨σ73, eσ73⟩ : ∃ z, z = new1 σ71 q72 4 14 := ⟨_, rfl⟩
  have h := h q72 hq72 σ73 eσ73
  rw [← eσ73] at hH hc ⊢
  have hGσ73 : RG σ73 := by rw [eσ73]; exact hGσ71.new1
  have hYσ73 : TY σ73 := by rw [eσ73]; exact hYσ71.new1 hq72
  have xσ73 : Ext σ71 σ73 := by rw [eσ73]; exact Ext.new1 hq72
  have kq72 : kO σ73 q72 4 := by rw [eσ73]; exact kO.new1
  refine lv_dup B.1 B.2.1 dX12_init_49 rfl ?_
  refine W.eq (g2 := F0 m 50 ls [.ref q72, .ref q72, .ref th]) (rfl) ?_
  refine c_I B hH hl hc K.2.2.1 (As := []) (ok_X4_init hl9 K.2.1 hX0 σ73 q72 kq72 hGσ73 hYσ73 h) (fun _ _ h9 => hX0 _ _ h9.1) rfl wi_X12_29 0 hd_X4_init ⟨Nat.le_trans (Nat.le_of_ble_eq_true rfl) K.2.2.2.1, Nat.le_trans (Nat.le_of_ble_eq_true rfl) K.2.2.2.2.1⟩ rfl (rest := [.ref q72, .ref th]) rfl (Nat.le_of_ble_eq_true rfl) dX12_init_50 (fun σ74 w hq => ?_)
  obtain ⟨rfl, h, hGσ74, hYσ74, xσ74⟩ := hq
  have h := h xσ74
  intro H locs ls hH hl hc
  refine W.eq (g2 := F0 m 53 ls [.ref q72, .ref th]) (rfl) ?_
  try dsimp only at h
  obtain ⟨σ75, eσ75⟩ : ∃ z, z = pP σ74 th 5 (some q72) := ⟨_, rfl⟩
  have h := h σ75 eσ75
  refine W.eq (g2 := F0 m 53 ls [va_rf (some q72), .ref th]) (rfl) ?_
  refine f_putp B hH (hth.up (xσ60.trans (xσ61.trans (xσ62.trans (xσ63.trans (xσ65.trans (xσ66.trans (xσ67.trans (xσ69.trans (xσ70.trans (xσ71.trans (xσ73.trans xσ74)))))))))))) (by decide) rfl wu_X12 tyX12 tyX12_ok nmX12 5 (by decide) wf_X12_34 rfl (r := (some q72)) (ty := .object "StreamHouse$Job") rfl rfl rfl (nrO _ _) (ftO _ _) dX12_init_53 (fun H locs hH => ?_)
  have hH : Hd D cA A s (pP σ74 th 5 (some q72)) H locs := hH
  rw [← eσ75] at hH
  have hGσ75 : RG σ75 := by rw [eσ75]; exact hGσ74.pP
  have hYσ75 : TY σ75 := by rw [eσ75]; exact hYσ74.pP (hth.up (xσ60.trans (xσ61.trans (xσ62.trans (xσ63.trans (xσ65.trans (xσ66.trans (xσ67.trans (xσ69.trans (xσ70.trans (xσ71.trans (xσ73.trans xσ74)))))))))))) (d := 4) (by decide) (tyS1 (kq72.up xσ74))
  have xσ75 : Ext σ74 σ75 := by rw [eσ75]; exact Ext.pP
  have hc : CB n0 s0 σ75 := by rw [eσ75]; exact hc
  rw [show gc σ74 = gc σ75 by rw [eσ75]; try rfl, show gs σ74 = gs σ75 by rw [eσ75]; try rfl]
  refine lv_aload_n B.1 B.2.1 dX12_init_56 rfl (lv_at hl 0 rfl) ?_
  obtain ⟨zq76, h⟩ := h
  refine c_new B hH hc K.2.2.1 (ci := 8) rfl (by decide) wu_X8 tyX8 tyX8_ok (by decide) wn_X12_37 zq76 dX12_init_57 (fun q76 H hq76 hH hc => ?_)
  obtain ⟨σ77, eσ77⟩ : ∃ z, z = new1 σ75 q76 8 3 := ⟨_, rfl⟩
  have h := h q76 hq76 σ77 eσ77
  rw [← eσ77] at hH hc ⊢
  have hGσ77 : RG σ77 := by rw [eσ77]; exact hGσ75.new1
  have hYσ77 : TY σ77 := by rw [eσ77]; exact hYσ75.new1 hq76
  have xσ77 : Ext σ75 σ77 := by rw [eσ77]; exact Ext.new1 hq76
  have kq76 : kO σ77 q76 8 := by rw [eσ77]; exact kO.new1
  refine lv_dup B.1 B.2.1 dX12_init_60 rfl ?_
  refine W.eq (g2 := F0 m 61 ls [.ref q76, .ref q76, .ref th]) (rfl) ?_
  refine c_IN B hH hl hc K.2.2.1 (As := []) (ok_X8_init hl9 K.2.1 hX0 σ77 q76 kq76 hGσ77 hYσ77 h) (fun _ _ h9 => hX0 _ _ h9.1) (List.mem_of_getElem? (l := nmL) (i := 2) rfl) rfl wq_X8_init 0 hd_X8_init ⟨Nat.le_trans (Nat.le_of_ble_eq_true rfl) K.2.2.2.1, Nat.le_trans (Nat.le_of_ble_eq_true rfl) K.2.2.2.2.1⟩ rfl (rest := [.ref q76, .ref th]) rfl (Nat.le_of_ble_eq_true rfl) dX12_init_61 (fun σ78 w hq => ?_)
  obtain ⟨rfl, h, hGσ78, hYσ78, xσ78⟩ := hq
  have h := h xσ78
  intro H locs ls hH hl hc
  refine W.eq (g2 := F0 m 64 ls [.ref q76, .ref th]) (rfl) ?_
  try dsimp only at h
  obtain ⟨σ79, eσ79⟩ : ∃ z, z = pP σ78 th 6 (some q76) := ⟨_, rfl⟩
  have h := h σ79 eσ79
  refine W.eq (g2 := F0 m 64 ls [va_rf (some q76), .ref th]) (rfl) ?_
  refine f_putF B hH (hth.up (xσ60.trans (xσ61.trans (xσ62.trans (xσ63.trans (xσ65.trans (xσ66.trans (xσ67.trans (xσ69.trans (xσ70.trans (xσ71.trans (xσ73.trans (xσ74.trans (xσ75.trans (xσ77.trans xσ78))))))))))))))) (by decide) rfl wu_X12 tyX12 tyX12_ok nmX12 6 (by decide) wf_X12_40 rfl (r := (some q76)) (ty := .object "StreamHouse$Pool") rfl (hin9 rfl) rfl rfl rfl (nrO _ _) (ftO _ _) dX12_init_64 (fun H locs hH => ?_)
  have hH : Hd D cA A s (pP σ78 th 6 (some q76)) H locs := hH
  rw [← eσ79] at hH
  have hGσ79 : RG σ79 := by rw [eσ79]; exact hGσ78.pP
  have hYσ79 : TY σ79 := by rw [eσ79]; exact hYσ78.pP (hth.up (xσ60.trans (xσ61.trans (xσ62.trans (xσ63.trans (xσ65.trans (xσ66.trans (xσ67.trans (xσ69.trans (xσ70.trans (xσ71.trans (xσ73.trans (xσ74.trans (xσ75.trans (xσ77.trans xσ78))))))))))))))) (d := 8) (by decide) (tyS1 (kq76.up xσ78))
  have xσ79 : Ext σ78 σ79 := by rw [eσ79]; exact Ext.pP
  have hc : CB n0 s0 σ79 := by rw [eσ79]; exact hc
  rw [show gc σ78 = gc σ79 by rw [eσ79]; try rfl, show gs σ78 = gs σ79 by rw [eσ79]; try rfl]
  refine lv_aload_n B.1 B.2.1 dX12_init_67 rfl (lv_at hl 0 rfl) ?_
  obtain ⟨zq80, h⟩ := h
  refine c_new B hH hc K.2.2.1 (ci := 9) rfl (by decide) wu_X9 tyX9 tyX9_ok (by decide) wn_X12_44 zq80 dX12_init_68 (fun q80 H hq80 hH hc => ?_)
  obtain ⟨σ81, eσ81⟩ : ∃ z, z = new1 σ79 q80 9 20 := ⟨_, rfl⟩
  have h := h q80 hq80 σ81 eσ81
  rw [← eσ81] at hH hc ⊢
  have hGσ81 : RG σ81 := by rw [eσ81]; exact hGσ79.new1
  have hYσ81 : TY σ81 := by rw [eσ81]; exact hYσ79.new1 hq80
  have xσ81 : Ext σ79 σ81 := by rw [eσ81]; exact Ext.new1 hq80
  have kq80 : kO σ81 q80 9 := by rw [eσ81]; exact kO.new1
  refine lv_dup B.1 B.2.1 dX12_init_71 rfl ?_
  refine lv_aload_n B.1 B.2.1 dX12_init_72 rfl (lv_at hl 0 rfl) ?_
  refine f_getp B hH (hth.up (xσ60.trans (xσ61.trans (xσ62.trans (xσ63.trans (xσ65.trans (xσ66.trans (xσ67.trans (xσ69.trans (xσ70.trans (xσ71.trans (xσ73.trans (xσ74.trans (xσ75.trans (xσ77.trans (xσ78.trans (xσ79.trans xσ81))))))))))))))))) (by decide) rfl wu_X12 6 (by decide) wf_X12_40 rfl rfl dX12_init_73 ?_
  refine W.eq (g2 := F0 m 76 ls [va_rf (gP σ81 th 6), .ref q80, .ref q80, .ref th]) (rfl) ?_
  refine c_I B hH hl hc K.2.2.1 (As := [va_rf (gP σ81 th 6)]) (ok_X9_init hl9 K.2.1 hX0 σ81 q80 (gP σ81 th 6) (hYσ81.get (hth.up (xσ60.trans (xσ61.trans (xσ62.trans (xσ63.trans (xσ65.trans (xσ66.trans (xσ67.trans (xσ69.trans (xσ70.trans (xσ71.trans (xσ73.trans (xσ74.trans (xσ75.trans (xσ77.trans (xσ78.trans (xσ79.trans xσ81))))))))))))))))) (by decide)) kq80 hGσ81 hYσ81 h) (fun _ _ h9 => hX0 _ _ h9.1) rfl wi_X12_46 1 hd_X9_init ⟨Nat.le_trans (Nat.le_of_ble_eq_true rfl) K.2.2.2.1, Nat.le_trans (Nat.le_of_ble_eq_true rfl) K.2.2.2.2.1⟩ rfl (rest := [.ref q80, .ref th]) rfl (Nat.le_of_ble_eq_true rfl) dX12_init_76 (fun σ82 w hq => ?_)
  obtain ⟨rfl, h, hGσ82, hYσ82, xσ82⟩ := hq
  have h := h xσ82
  intro H locs ls hH hl hc
  refine W.eq (g2 := F0 m 79 ls [.ref q80, .ref th]) (rfl) ?_
  try dsimp only at h
  obtain ⟨σ83, eσ83⟩ : ∃ z, z = pP σ82 th 7 (some q80) := ⟨_, rfl⟩
  have h := h σ83 eσ83
  refine W.eq (g2 := F0 m 79 ls [va_rf (some q80), .ref th]) (rfl) ?_
  refine f_putF B hH (hth.up (xσ60.trans (xσ61.trans (xσ62.trans (xσ63.trans (xσ65.trans (xσ66.trans (xσ67.trans (xσ69.trans (xσ70.trans (xσ71.trans (xσ73.trans (xσ74.trans (xσ75.trans (xσ77.trans (xσ78.trans (xσ79.trans (xσ81.trans xσ82)))))))))))))))))) (by decide) rfl wu_X12 tyX12 tyX12_ok nmX12 7 (by decide) wf_X12_49 rfl (r := (some q80)) (ty := .object "StreamHouse$Run") rfl (hin9 rfl) rfl rfl rfl (nrO _ _) (ftO _ _) dX12_init_79 (fun H locs hH => ?_)
  have hH : Hd D cA A s (pP σ82 th 7 (some q80)) H locs := hH
  rw [← eσ83] at hH
  have hGσ83 : RG σ83 := by rw [eσ83]; exact hGσ82.pP
  have hYσ83 : TY σ83 := by rw [eσ83]; exact hYσ82.pP (hth.up (xσ60.trans (xσ61.trans (xσ62.trans (xσ63.trans (xσ65.trans (xσ66.trans (xσ67.trans (xσ69.trans (xσ70.trans (xσ71.trans (xσ73.trans (xσ74.trans (xσ75.trans (xσ77.trans (xσ78.trans (xσ79.trans (xσ81.trans xσ82)))))))))))))))))) (d := 9) (by decide) (tyS1 (kq80.up xσ82))
  have xσ83 : Ext σ82 σ83 := by rw [eσ83]; exact Ext.pP
  have hc : CB n0 s0 σ83 := by rw [eσ83]; exact hc
  rw [show gc σ82 = gc σ83 by rw [eσ83]; try rfl, show gs σ82 = gs σ83 by rw [eσ83]; try rfl]
  refine lv_aload_n B.1 B.2.1 dX12_init_82 rfl (lv_at hl 0 rfl) ?_
  obtain ⟨zq84, h⟩ := h
  refine c_new B hH hc K.2.2.1 (ci := 7) rfl (by decide) wu_X7 tyX7 tyX7_ok (by decide) wn_X12_53 zq84 dX12_init_83 (fun q84 H hq84 hH hc => ?_)
  obtain ⟨σ85, eσ85⟩ : ∃ z, z = new1 σ83 q84 7 7 := ⟨_, rfl⟩
  have h := h q84 hq84 σ85 eσ85
  rw [← eσ85] at hH hc ⊢
  have hGσ85 : RG σ85 := by rw [eσ85]; exact hGσ83.new1
  have hYσ85 : TY σ85 := by rw [eσ85]; exact hYσ83.new1 hq84
  have xσ85 : Ext σ83 σ85 := by rw [eσ85]; exact Ext.new1 hq84
  have kq84 : kO σ85 q84 7 := by rw [eσ85]; exact kO.new1
  refine lv_dup B.1 B.2.1 dX12_init_86 rfl ?_
  refine lv_aload_n B.1 B.2.1 dX12_init_87 rfl (lv_at hl 0 rfl) ?_
  refine f_getp B hH (hth.up (xσ60.trans (xσ61.trans (xσ62.trans (xσ63.trans (xσ65.trans (xσ66.trans (xσ67.trans (xσ69.trans (xσ70.trans (xσ71.trans (xσ73.trans (xσ74.trans (xσ75.trans (xσ77.trans (xσ78.trans (xσ79.trans (xσ81.trans (xσ82.trans (xσ83.trans xσ85)))))))))))))))))))) (by decide) rfl wu_X12 6 (by decide) wf_X12_40 rfl rfl dX12_init_88 ?_
  refine W.eq (g2 := F0 m 91 ls [va_rf (gP σ85 th 6), .ref q84, .ref q84, .ref th]) (rfl) ?_
  refine c_I B hH hl hc K.2.2.1 (As := [va_rf (gP σ85 th 6)]) (ok_X7_init hl9 K.2.1 hX0 σ85 q84 (gP σ85 th 6) (hYσ85.get (hth.up (xσ60.trans (xσ61.trans (xσ62.trans (xσ63.trans (xσ65.trans (xσ66.trans (xσ67.trans (xσ69.trans (xσ70.trans (xσ71.trans (xσ73.trans (xσ74.trans (xσ75.trans (xσ77.trans (xσ78.trans (xσ79.trans (xσ81.trans (xσ82.trans (xσ83.trans xσ85)))))))))))))))))))) (by decide)) kq84 hGσ85 hYσ85 h) (fun _ _ h9 => hX0 _ _ h9.1) rfl wi_X12_55 1 hd_X7_init ⟨Nat.le_trans (Nat.le_of_ble_eq_true rfl) K.2.2.2.1, Nat.le_trans (Nat.le_of_ble_eq_true rfl) K.2.2.2.2.1⟩ rfl (rest := [.ref q84, .ref th]) rfl (Nat.le_of_ble_eq_true rfl) dX12_init_91 (fun σ86 w hq => ?_)
  obtain ⟨rfl, h, hGσ86, hYσ86, xσ86⟩ := hq
  have h := h xσ86
  intro H locs ls hH hl hc
  refine W.eq (g2 := F0 m 94 ls [.ref q84, .ref th]) (rfl) ?_
  try dsimp only at h
  obtain ⟨σ87, eσ87⟩ : ∃ z, z = pP σ86 th 8 (some q84) := ⟨_, rfl⟩
  have h := h σ87 eσ87
  refine W.eq (g2 := F0 m 94 ls [va_rf (some q84), .ref th]) (rfl) ?_
  refine f_putF B hH (hth.up (xσ60.trans (xσ61.trans (xσ62.trans (xσ63.trans (xσ65.trans (xσ66.trans (xσ67.trans (xσ69.trans (xσ70.trans (xσ71.trans (xσ73.trans (xσ74.trans (xσ75.trans (xσ77.trans (xσ78.trans (xσ79.trans (xσ81.trans (xσ82.trans (xσ83.trans (xσ85.trans xσ86))))))))))))))))))))) (by decide) rfl wu_X12 tyX12 tyX12_ok nmX12 8 (by decide) wf_X12_56 rfl (r := (some q84)) (ty := .object "StreamHouse$Pass") rfl (hin9 rfl) rfl rfl rfl (nrO _ _) (ftO _ _) dX12_init_94 (fun H locs hH => ?_)
  have hH : Hd D cA A s (pP σ86 th 8 (some q84)) H locs := hH
  rw [← eσ87] at hH
  have hGσ87 : RG σ87 := by rw [eσ87]; exact hGσ86.pP
  have hYσ87 : TY σ87 := by rw [eσ87]; exact hYσ86.pP (hth.up (xσ60.trans (xσ61.trans (xσ62.trans (xσ63.trans (xσ65.trans (xσ66.trans (xσ67.trans (xσ69.trans (xσ70.trans (xσ71.trans (xσ73.trans (xσ74.trans (xσ75.trans (xσ77.trans (xσ78.trans (xσ79.trans (xσ81.trans (xσ82.trans (xσ83.trans (xσ85.trans xσ86))))))))))))))))))))) (d := 7) (by decide) (tyS1 (kq84.up xσ86))
  have xσ87 : Ext σ86 σ87 := by rw [eσ87]; exact Ext.pP
  have hc : CB n0 s0 σ87 := by rw [eσ87]; exact hc
  rw [show gc σ86 = gc σ87 by rw [eσ87]; try rfl, show gs σ86 = gs σ87 by rw [eσ87]; try rfl]
  exact hQ _ _ _ _ _ dX12_init_97 hH hc h hGσ87 hYσ87 ((((((((((((((((((((((hE.trans xσ60).trans xσ61).trans xσ62).trans xσ63).trans xσ65).trans xσ66).trans xσ67).trans xσ69).trans xσ70).trans xσ71).trans xσ73).trans xσ74).trans xσ75).trans xσ77).trans xσ78).trans xσ79).trans xσ81).trans xσ82).trans xσ83).trans xσ85).trans xσ86).trans xσ87)
theorem ok_X12_init (hl0 : l.stackTraces = false) (hT : TyC cA tys) {Q : Sg → Unit → Prop} {X : Sg → String → Prop} (hX0 : ∀ σ E, ¬ X σ E) (σ : Sg) (th : Nat) (hth : kO σ th 12) (hG : RG σ) (hY : TY σ) (h : wp_X12_init th σ Q X) : Ok l D cA tys A yX12_init (.code yX12_init cX12_init 1 none) 4 75 [.ref th] σ (QcV σ Q) (QxC σ X) := by
  unfold wp_X12_init at h
  exact oc_V hl0 (by decide) (by exact Nat.le_of_ble_eq_true rfl) hT (fun p e R s m args below meth c K hQ hX hTh hin9 H locs ls hH hl hc => a_X12_init_0 K hQ hX hTh hin9 hX0 σ h hG hY (Ext.rfl' σ) hth H locs ls hH (lv_sub (l' := [(0, .ref th)]) hl [0] rfl) hc)
end CCT
