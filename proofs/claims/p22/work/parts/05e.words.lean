theorem q834 : (Jvm.Cond.instanceMethod ({ cls := "SleighPost$Sleigh", name := "depart", desc := "(I)V" } : Jvm.MethodName)) ∈ GW := gq 834 (by decide +kernel) (by decide +kernel)
theorem q835 : (Jvm.Cond.selects "SleighPost$Sleigh" ({ cls := "SleighPost$Sleigh", name := "depart", desc := "(I)V" } : Jvm.MethodName) ({ cls := "SleighPost$Sleigh", name := "depart", desc := "(I)V" } : Jvm.MethodName)) ∈ GW := gq 835 (by decide +kernel) (by decide +kernel)
theorem q836 : (Jvm.Cond.code ({ cls := "SleighPost$Sleigh", name := "depart", desc := "(I)V" } : Jvm.MethodName) prog_4_method_7_code (2 : Nat) (Option.none : Option Jvm.ClassFile.FieldType)) ∈ GW := gq 836 (by decide +kernel) (by decide +kernel)
theorem q837 : (Jvm.Cond.methodLink "SleighPost" (171 : Nat) ({ cls := "SleighPost$World", name := "hoursToGoal", desc := "(LSleighPost$Sleigh;)I" } : Jvm.MethodName)) ∈ GW := gq 837 (by decide +kernel) (by decide +kernel)
theorem q838 : (Jvm.Cond.instanceMethod ({ cls := "SleighPost$World", name := "hoursToGoal", desc := "(LSleighPost$Sleigh;)I" } : Jvm.MethodName)) ∈ GW := gq 838 (by decide +kernel) (by decide +kernel)
theorem q839 : (Jvm.Cond.selects "SleighPost$World" ({ cls := "SleighPost$World", name := "hoursToGoal", desc := "(LSleighPost$Sleigh;)I" } : Jvm.MethodName) ({ cls := "SleighPost$World", name := "hoursToGoal", desc := "(LSleighPost$Sleigh;)I" } : Jvm.MethodName)) ∈ GW := gq 839 (by decide +kernel) (by decide +kernel)
theorem q840 : (Jvm.Cond.code ({ cls := "SleighPost$World", name := "hoursToGoal", desc := "(LSleighPost$Sleigh;)I" } : Jvm.MethodName) prog_6_method_14_code (2 : Nat) (Option.some Jvm.ClassFile.FieldType.int)) ∈ GW := gq 840 (by decide +kernel) (by decide +kernel)
theorem q841 : (Jvm.Cond.methodLink "SleighPostLaw" (95 : Nat) ({ cls := "SleighPostLaw$Sim", name := "weight", desc := "(I)I" } : Jvm.MethodName)) ∈ GW := gq 841 (by decide +kernel) (by decide +kernel)
theorem q842 : (Jvm.Cond.methodLink "SleighPostLaw" (104 : Nat) ({ cls := "SleighPostLaw$Sim", name := "way", desc := "(IIIII)I" } : Jvm.MethodName)) ∈ GW := gq 842 (by decide +kernel) (by decide +kernel)
theorem q843 : (Jvm.Cond.methodLink "SleighPostLaw" (111 : Nat) ({ cls := "SleighPost", name := "load", desc := "(II)I" } : Jvm.MethodName)) ∈ GW := gq 843 (by decide +kernel) (by decide +kernel)
theorem q844 : (Jvm.Cond.instanceMethod ({ cls := "SleighPost", name := "load", desc := "(II)I" } : Jvm.MethodName)) ∈ GW := gq 844 (by decide +kernel) (by decide +kernel)
theorem q845 : (Jvm.Cond.selects "SleighPost" ({ cls := "SleighPost", name := "load", desc := "(II)I" } : Jvm.MethodName) ({ cls := "SleighPost", name := "load", desc := "(II)I" } : Jvm.MethodName)) ∈ GW := gq 845 (by decide +kernel) (by decide +kernel)
theorem q846 : (Jvm.Cond.code ({ cls := "SleighPost", name := "load", desc := "(II)I" } : Jvm.MethodName) prog_1_method_9_code (5 : Nat) (Option.some Jvm.ClassFile.FieldType.int)) ∈ GW := gq 846 (by decide +kernel) (by decide +kernel)
theorem q849 : (Jvm.Cond.methodLink "SleighPost" (158 : Nat) ({ cls := "SleighPost$Sleigh", name := "weight", desc := "()I" } : Jvm.MethodName)) ∈ GW := gq 849 (by decide +kernel) (by decide +kernel)
theorem q850 : (Jvm.Cond.methodLink "SleighPostLaw" (140 : Nat) ({ cls := "java/lang/Math", name := "abs", desc := "(I)I" } : Jvm.MethodName)) ∈ GW := gq 850 (by decide +kernel) (by decide +kernel)
theorem q851 : (Jvm.Cond.methodLink "SleighPostLaw" (143 : Nat) ({ cls := "java/lang/Math", name := "max", desc := "(II)I" } : Jvm.MethodName)) ∈ GW := gq 851 (by decide +kernel) (by decide +kernel)
theorem q852 : (Jvm.Cond.classLink "SleighPostLaw" (123 : Nat) "[[I") ∈ GW := gq 852 (by decide +kernel) (by decide +kernel)
theorem q853 : (Jvm.Cond.sameMethod "java/lang/Throwable" "java/lang/Throwable" "fillInStackTrace" "(I)Ljava/lang/Throwable;") ∈ GW := gq 853 (by decide +kernel) (by decide +kernel)
theorem qs0 : Cond.selects "java/lang/Throwable" ⟨"java/lang/Throwable", "fillInStackTrace", "(I)Ljava/lang/Throwable;"⟩ ⟨"java/lang/Throwable", "fillInStackTrace", "(I)Ljava/lang/Throwable;"⟩ ∈ GW := gqs 0 (by decide +kernel) (by decide +kernel)
theorem qs1 : Cond.selects "SleighPost$Lake" ⟨"SleighPost$Lake", "freeze", "(I)V"⟩ ⟨"SleighPost$Lake", "freeze", "(I)V"⟩ ∈ GW := gqs 1 (by decide +kernel) (by decide +kernel)
theorem qs2 : Cond.selects "SleighPost$Lake" ⟨"SleighPost$Lake", "thin", "(I)V"⟩ ⟨"SleighPost$Lake", "thin", "(I)V"⟩ ∈ GW := gqs 2 (by decide +kernel) (by decide +kernel)
theorem qs3 : Cond.selects "SleighPost$Lake" ⟨"SleighPost$Lake", "spreadCracks", "()V"⟩ ⟨"SleighPost$Lake", "spreadCracks", "()V"⟩ ∈ GW := gqs 3 (by decide +kernel) (by decide +kernel)
theorem qs4 : Cond.selects "SleighPost$Lake" ⟨"SleighPost$Lake", "wasCrackedBeside", "(I)Z"⟩ ⟨"SleighPost$Lake", "wasCrackedBeside", "(I)Z"⟩ ∈ GW := gqs 4 (by decide +kernel) (by decide +kernel)
theorem qs5 : Cond.selects "SleighPost$World" ⟨"SleighPost$World", "sinkSleighs", "()V"⟩ ⟨"SleighPost$World", "sinkSleighs", "()V"⟩ ∈ GW := gqs 5 (by decide +kernel) (by decide +kernel)
theorem qs6 : Cond.selects "SleighPost$World" ⟨"SleighPost$World", "loseMailOf", "(I)V"⟩ ⟨"SleighPost$World", "loseMailOf", "(I)V"⟩ ∈ GW := gqs 6 (by decide +kernel) (by decide +kernel)
theorem qs7 : Cond.selects "SleighPost$World" ⟨"SleighPost$World", "moveSleighs", "()I"⟩ ⟨"SleighPost$World", "moveSleighs", "()I"⟩ ∈ GW := gqs 7 (by decide +kernel) (by decide +kernel)
theorem qs8 : Cond.selects "SleighPost$World" ⟨"SleighPost$World", "unload", "(II)I"⟩ ⟨"SleighPost$World", "unload", "(II)I"⟩ ∈ GW := gqs 8 (by decide +kernel) (by decide +kernel)
theorem qs9 : Cond.selects "SleighPost$World" ⟨"SleighPost$World", "setOutSleighs", "()V"⟩ ⟨"SleighPost$World", "setOutSleighs", "()V"⟩ ∈ GW := gqs 9 (by decide +kernel) (by decide +kernel)
theorem qs10 : Cond.selects "SleighPost$Ways" ⟨"SleighPost$Ways", "reach", "(II)V"⟩ ⟨"SleighPost$Ways", "reach", "(II)V"⟩ ∈ GW := gqs 10 (by decide +kernel) (by decide +kernel)
theorem qs11 : Cond.selects "SleighPost$Ways" ⟨"SleighPost$Ways", "spread", "(I)V"⟩ ⟨"SleighPost$Ways", "spread", "(I)V"⟩ ∈ GW := gqs 11 (by decide +kernel) (by decide +kernel)
theorem qs12 : Cond.selects "SleighPost$World" ⟨"SleighPost$World", "restSleighs", "()V"⟩ ⟨"SleighPost$World", "restSleighs", "()V"⟩ ∈ GW := gqs 12 (by decide +kernel) (by decide +kernel)
theorem qs13 : Cond.selects "SleighPost$World" ⟨"SleighPost$World", "sunkSleighs", "()I"⟩ ⟨"SleighPost$World", "sunkSleighs", "()I"⟩ ∈ GW := gqs 13 (by decide +kernel) (by decide +kernel)
theorem qs14 : Cond.selects "SleighPost$World" ⟨"SleighPost$World", "bagsThat", "(I)I"⟩ ⟨"SleighPost$World", "bagsThat", "(I)I"⟩ ∈ GW := gqs 14 (by decide +kernel) (by decide +kernel)
theorem layX0 : ∀ w ∈ u_ws RX0 TX0 5, w ∈ GW := by decide +kernel
theorem layX1 : ∀ w ∈ u_ws RX1 TX1 7, w ∈ GW := by decide +kernel
theorem layX2 : ∀ w ∈ u_ws RX2 TX2 9, w ∈ GW := by decide +kernel
theorem layX3 : ∀ w ∈ u_ws RX3 TX3 7, w ∈ GW := by decide +kernel
theorem layX4 : ∀ w ∈ u_ws RX4 TX4 9, w ∈ GW := by decide +kernel
theorem layX5 : ∀ w ∈ u_ws RX5 TX5 2, w ∈ GW := by decide +kernel
theorem layX6 : ∀ w ∈ u_ws RX6 TX6 11, w ∈ GW := by decide +kernel
theorem layX7 : ∀ w ∈ u_ws RX7 TX7 7, w ∈ GW := by decide +kernel
