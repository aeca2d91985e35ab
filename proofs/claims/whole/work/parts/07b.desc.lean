theorem nh0 : RX0 ≠ "java/lang/invoke/MethodHandle" ∧ RX0 ≠ "java/lang/invoke/VarHandle" := by decide +kernel
theorem nh1 : RX1 ≠ "java/lang/invoke/MethodHandle" ∧ RX1 ≠ "java/lang/invoke/VarHandle" := by decide +kernel
theorem nh2 : RX2 ≠ "java/lang/invoke/MethodHandle" ∧ RX2 ≠ "java/lang/invoke/VarHandle" := by decide +kernel
theorem nh3 : RX3 ≠ "java/lang/invoke/MethodHandle" ∧ RX3 ≠ "java/lang/invoke/VarHandle" := by decide +kernel
theorem nh4 : RX4 ≠ "java/lang/invoke/MethodHandle" ∧ RX4 ≠ "java/lang/invoke/VarHandle" := by decide +kernel
theorem nh5 : RX5 ≠ "java/lang/invoke/MethodHandle" ∧ RX5 ≠ "java/lang/invoke/VarHandle" := by decide +kernel
theorem nh6 : RX6 ≠ "java/lang/invoke/MethodHandle" ∧ RX6 ≠ "java/lang/invoke/VarHandle" := by decide +kernel
theorem pd_0 : (parseMethodDescriptor "(LMouldShots$Shot;I)I").map (fun d => d.parameters.length) = some 2 := by decide +kernel
theorem pd_1 : (parseMethodDescriptor "(I)Z").map (fun d => d.parameters.length) = some 1 := by decide +kernel
theorem pd_2 : (parseMethodDescriptor "(I)I").map (fun d => d.parameters.length) = some 1 := by decide +kernel
theorem pd_3 : (parseMethodDescriptor "(LMouldShots$Plan;LMouldShots$State;Z)I").map (fun d => d.parameters.length) = some 3 := by decide +kernel
theorem pd_4 : (parseMethodDescriptor "(ILMouldShots$Plan;)V").map (fun d => d.parameters.length) = some 2 := by decide +kernel
theorem pd_5 : (parseMethodDescriptor "(LMouldShots$Plan;LMouldShots$State;I)I").map (fun d => d.parameters.length) = some 3 := by decide +kernel
theorem pd_6 : (parseMethodDescriptor "(LMouldShots$State;)I").map (fun d => d.parameters.length) = some 1 := by decide +kernel
theorem pd_7 : (parseMethodDescriptor "(LMouldShots$Plan;LMouldShots$State;)I").map (fun d => d.parameters.length) = some 2 := by decide +kernel
theorem pd_8 : (parseMethodDescriptor "(ILMouldShots$Plan;)Z").map (fun d => d.parameters.length) = some 2 := by decide +kernel
theorem pd_9 : (parseMethodDescriptor "()V").map (fun d => d.parameters.length) = some 0 := by decide +kernel
theorem pd_10 : (parseMethodDescriptor "(LMouldShots$Plan;LMouldShots$State;I)V").map (fun d => d.parameters.length) = some 3 := by decide +kernel
theorem pd_11 : (parseMethodDescriptor "(LMouldShots$Plan;LMouldShots$State;)V").map (fun d => d.parameters.length) = some 2 := by decide +kernel
theorem pd_12 : (parseMethodDescriptor "()I").map (fun d => d.parameters.length) = some 0 := by decide +kernel
theorem pd_13 : (parseMethodDescriptor "(LMouldShots$Band;)V").map (fun d => d.parameters.length) = some 1 := by decide +kernel
theorem pd_14 : (parseMethodDescriptor "(II)I").map (fun d => d.parameters.length) = some 2 := by decide +kernel
theorem pd_15 : (parseMethodDescriptor "(I[I)Z").map (fun d => d.parameters.length) = some 2 := by decide +kernel
theorem pd_16 : (parseMethodDescriptor "(II)Z").map (fun d => d.parameters.length) = some 2 := by decide +kernel
theorem pd_17 : (parseMethodDescriptor "(III)Z").map (fun d => d.parameters.length) = some 3 := by decide +kernel
theorem pd_18 : (parseMethodDescriptor "(IILMouldShots$Plan;)Z").map (fun d => d.parameters.length) = some 3 := by decide +kernel
theorem pd_19 : (parseMethodDescriptor "(LMouldShots$Plan;)I").map (fun d => d.parameters.length) = some 1 := by decide +kernel
theorem pd_20 : (parseMethodDescriptor "(LMouldShots$Plan;)V").map (fun d => d.parameters.length) = some 1 := by decide +kernel
theorem pd_21 : (parseMethodDescriptor "()Z").map (fun d => d.parameters.length) = some 0 := by decide +kernel
theorem pd_22 : (parseMethodDescriptor "(LMouldShots$State;)V").map (fun d => d.parameters.length) = some 1 := by decide +kernel
theorem pd_23 : (parseMethodDescriptor "(I)LMouldShots$Shot;").map (fun d => d.parameters.length) = some 1 := by decide +kernel
theorem pd_24 : (parseMethodDescriptor "(LMouldShots$Plan;)Z").map (fun d => d.parameters.length) = some 1 := by decide +kernel
theorem pd_25 : (parseMethodDescriptor "(LMouldShots$Shot;)V").map (fun d => d.parameters.length) = some 1 := by decide +kernel
theorem pd_26 : (parseMethodDescriptor "(LMouldShots$Shot;I)Z").map (fun d => d.parameters.length) = some 2 := by decide +kernel
theorem pd_27 : (parseMethodDescriptor "(LMouldShots$Shot;)Z").map (fun d => d.parameters.length) = some 1 := by decide +kernel
theorem pd_28 : (parseMethodDescriptor "(III)V").map (fun d => d.parameters.length) = some 3 := by decide +kernel
theorem pd_29 : (parseMethodDescriptor "(II)V").map (fun d => d.parameters.length) = some 2 := by decide +kernel
theorem pd_30 : (parseMethodDescriptor "(I)V").map (fun d => d.parameters.length) = some 1 := by decide +kernel
theorem pd_31 : (parseMethodDescriptor "([III)I").map (fun d => d.parameters.length) = some 3 := by decide +kernel
