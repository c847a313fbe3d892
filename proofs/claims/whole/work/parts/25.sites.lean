theorem uw_RD : ∀ w ∈ u_ws R_RD F_RD 6, w ∈ g_WS := List.forall_mem_cons.mpr ⟨w_199, List.forall_mem_cons.mpr ⟨w_201, List.forall_mem_cons.mpr ⟨w_203, List.forall_mem_cons.mpr ⟨w_205, List.forall_mem_cons.mpr ⟨w_207, List.forall_mem_cons.mpr ⟨w_209, fun _ h => absurd h List.not_mem_nil⟩⟩⟩⟩⟩⟩
theorem uw_Tx : ∀ w ∈ u_ws R_Tx F_Tx 2, w ∈ g_WS := List.forall_mem_cons.mpr ⟨w_42, List.forall_mem_cons.mpr ⟨w_44, fun _ h => absurd h List.not_mem_nil⟩⟩
theorem uw_Pi : ∀ w ∈ u_ws R_Pi F_Pi 4, w ∈ g_WS := List.forall_mem_cons.mpr ⟨w_64, List.forall_mem_cons.mpr ⟨w_66, List.forall_mem_cons.mpr ⟨w_68, List.forall_mem_cons.mpr ⟨w_70, fun _ h => absurd h List.not_mem_nil⟩⟩⟩⟩
theorem uw_RR : ∀ w ∈ u_ws R_RR F_RR 3, w ∈ g_WS := List.forall_mem_cons.mpr ⟨w_94, List.forall_mem_cons.mpr ⟨w_96, List.forall_mem_cons.mpr ⟨w_98, fun _ h => absurd h List.not_mem_nil⟩⟩⟩
theorem uw_Ru : ∀ w ∈ u_ws R_Ru F_Ru 3, w ∈ g_WS := List.forall_mem_cons.mpr ⟨w_83, List.forall_mem_cons.mpr ⟨w_85, List.forall_mem_cons.mpr ⟨w_87, fun _ h => absurd h List.not_mem_nil⟩⟩⟩
theorem uw_RL : ∀ w ∈ u_ws R_RL F_RL 2, w ∈ g_WS := List.forall_mem_cons.mpr ⟨w_114, List.forall_mem_cons.mpr ⟨w_116, fun _ h => absurd h List.not_mem_nil⟩⟩
theorem uw_Cu : ∀ w ∈ u_ws R_Cu F_Cu 4, w ∈ g_WS := List.forall_mem_cons.mpr ⟨w_135, List.forall_mem_cons.mpr ⟨w_137, List.forall_mem_cons.mpr ⟨w_139, List.forall_mem_cons.mpr ⟨w_141, fun _ h => absurd h List.not_mem_nil⟩⟩⟩⟩
theorem uw_Di : ∀ w ∈ u_ws R_Di F_Di 5, w ∈ g_WS := List.forall_mem_cons.mpr ⟨w_151, List.forall_mem_cons.mpr ⟨w_153, List.forall_mem_cons.mpr ⟨w_155, List.forall_mem_cons.mpr ⟨w_157, List.forall_mem_cons.mpr ⟨w_159, fun _ h => absurd h List.not_mem_nil⟩⟩⟩⟩⟩
theorem uw_Co : ∀ w ∈ u_ws R_Co F_Co 3, w ∈ g_WS := List.forall_mem_cons.mpr ⟨w_173, List.forall_mem_cons.mpr ⟨w_175, List.forall_mem_cons.mpr ⟨w_177, fun _ h => absurd h List.not_mem_nil⟩⟩⟩
theorem uw_Ga : ∀ w ∈ u_ws R_Ga F_Ga 2, w ∈ g_WS := List.forall_mem_cons.mpr ⟨w_188, List.forall_mem_cons.mpr ⟨w_190, fun _ h => absurd h List.not_mem_nil⟩⟩
theorem uw_Mo : ∀ w ∈ u_ws R_Mo F_Mo 18, w ∈ g_WS := List.forall_mem_cons.mpr ⟨w_924, List.forall_mem_cons.mpr ⟨w_926, List.forall_mem_cons.mpr ⟨w_928, List.forall_mem_cons.mpr ⟨w_930, List.forall_mem_cons.mpr ⟨w_932, List.forall_mem_cons.mpr ⟨w_934, List.forall_mem_cons.mpr ⟨w_936, List.forall_mem_cons.mpr ⟨w_938, List.forall_mem_cons.mpr ⟨w_940, List.forall_mem_cons.mpr ⟨w_942, List.forall_mem_cons.mpr ⟨w_944, List.forall_mem_cons.mpr ⟨w_946, List.forall_mem_cons.mpr ⟨w_948, List.forall_mem_cons.mpr ⟨w_950, List.forall_mem_cons.mpr ⟨w_952, List.forall_mem_cons.mpr ⟨w_954, List.forall_mem_cons.mpr ⟨w_956, List.forall_mem_cons.mpr ⟨w_958, fun _ h => absurd h List.not_mem_nil⟩⟩⟩⟩⟩⟩⟩⟩⟩⟩⟩⟩⟩⟩⟩⟩⟩⟩
theorem uw_Iae : ∀ w ∈ u_ws R_Iae F_Iae 0, w ∈ g_WS := fun _ h => absurd h List.not_mem_nil
theorem uw_Uoe : ∀ w ∈ u_ws R_Uoe F_Uoe 0, w ∈ g_WS := fun _ h => absurd h List.not_mem_nil
theorem uw_Ioe : ∀ w ∈ u_ws R_Ioe F_Ioe 0, w ∈ g_WS := fun _ h => absurd h List.not_mem_nil
theorem f_Tx_9 : g_F "RuleDiagram$Text" 9 1 0 := ⟨R_Tx, F_Tx, 2, rfl, by decide, uw_Tx, w_40⟩
theorem p_Tx_9 : g_FP "RuleDiagram$Text" 9 1 0 (.array .char) true := ⟨R_Tx, F_Tx, 2, rfl, by decide, uw_Tx, w_40, rfl, by decide +kernel, fun _ => rfl, ⟨ft_Tx, tk_Tx⟩, n_Tx⟩
theorem f_Tx_15 : g_F "RuleDiagram$Text" 15 1 1 := ⟨R_Tx, F_Tx, 2, rfl, by decide, uw_Tx, w_41⟩
theorem p_Tx_15 : g_FP "RuleDiagram$Text" 15 1 1 .int false := ⟨R_Tx, F_Tx, 2, rfl, by decide, uw_Tx, w_41, rfl, by decide +kernel, fun _ => rfl, ⟨ft_Tx, tk_Tx⟩, n_Tx⟩
theorem f_Pi_9 : g_F "RuleDiagram$Pieces" 9 2 0 := ⟨R_Pi, F_Pi, 4, rfl, by decide, uw_Pi, w_60⟩
theorem p_Pi_9 : g_FP "RuleDiagram$Pieces" 9 2 0 (.object "RuleDiagram$Text") true := ⟨R_Pi, F_Pi, 4, rfl, by decide, uw_Pi, w_60, rfl, by decide +kernel, fun _ => rfl, ⟨ft_Pi, tk_Pi⟩, n_Pi⟩
theorem f_Pi_28 : g_F "RuleDiagram$Pieces" 28 2 1 := ⟨R_Pi, F_Pi, 4, rfl, by decide, uw_Pi, w_61⟩
theorem p_Pi_28 : g_FP "RuleDiagram$Pieces" 28 2 1 .int false := ⟨R_Pi, F_Pi, 4, rfl, by decide, uw_Pi, w_61, rfl, by decide +kernel, fun _ => rfl, ⟨ft_Pi, tk_Pi⟩, n_Pi⟩
theorem f_Pi_15 : g_F "RuleDiagram$Pieces" 15 2 2 := ⟨R_Pi, F_Pi, 4, rfl, by decide, uw_Pi, w_62⟩
theorem p_Pi_15 : g_FP "RuleDiagram$Pieces" 15 2 2 .int false := ⟨R_Pi, F_Pi, 4, rfl, by decide, uw_Pi, w_62, rfl, by decide +kernel, fun _ => rfl, ⟨ft_Pi, tk_Pi⟩, n_Pi⟩
theorem f_Pi_35 : g_F "RuleDiagram$Pieces" 35 2 3 := ⟨R_Pi, F_Pi, 4, rfl, by decide, uw_Pi, w_63⟩
theorem p_Pi_35 : g_FP "RuleDiagram$Pieces" 35 2 3 .int false := ⟨R_Pi, F_Pi, 4, rfl, by decide, uw_Pi, w_63, rfl, by decide +kernel, fun _ => rfl, ⟨ft_Pi, tk_Pi⟩, n_Pi⟩
theorem f_Ru_9 : g_F "RuleDiagram$Rule" 9 4 0 := ⟨R_Ru, F_Ru, 3, rfl, by decide, uw_Ru, w_80⟩
theorem p_Ru_9 : g_FP "RuleDiagram$Rule" 9 4 0 (.array .int) true := ⟨R_Ru, F_Ru, 3, rfl, by decide, uw_Ru, w_80, rfl, by decide +kernel, fun _ => rfl, ⟨ft_Ru, tk_Ru⟩, n_Ru⟩
theorem f_Ru_15 : g_F "RuleDiagram$Rule" 15 4 1 := ⟨R_Ru, F_Ru, 3, rfl, by decide, uw_Ru, w_81⟩
theorem p_Ru_15 : g_FP "RuleDiagram$Rule" 15 4 1 (.array .int) true := ⟨R_Ru, F_Ru, 3, rfl, by decide, uw_Ru, w_81, rfl, by decide +kernel, fun _ => rfl, ⟨ft_Ru, tk_Ru⟩, n_Ru⟩
theorem f_Ru_18 : g_F "RuleDiagram$Rule" 18 4 2 := ⟨R_Ru, F_Ru, 3, rfl, by decide, uw_Ru, w_82⟩
theorem p_Ru_18 : g_FP "RuleDiagram$Rule" 18 4 2 .int false := ⟨R_Ru, F_Ru, 3, rfl, by decide, uw_Ru, w_82, rfl, by decide +kernel, fun _ => rfl, ⟨ft_Ru, tk_Ru⟩, n_Ru⟩
theorem f_RR_14 : g_F "RuleDiagram$RuleReader" 14 3 0 := ⟨R_RR, F_RR, 3, rfl, by decide, uw_RR, w_91⟩
theorem p_RR_14 : g_FP "RuleDiagram$RuleReader" 14 3 0 (.object "RuleDiagram$Pieces") true := ⟨R_RR, F_RR, 3, rfl, by decide, uw_RR, w_91, rfl, by decide +kernel, fun _ => rfl, ⟨ft_RR, tk_RR⟩, n_RR⟩
theorem f_RR_22 : g_F "RuleDiagram$RuleReader" 22 3 1 := ⟨R_RR, F_RR, 3, rfl, by decide, uw_RR, w_92⟩
theorem p_RR_22 : g_FP "RuleDiagram$RuleReader" 22 3 1 (.array (.object "RuleDiagram$Rule")) true := ⟨R_RR, F_RR, 3, rfl, by decide, uw_RR, w_92, rfl, by decide +kernel, fun _ => rfl, ⟨ft_RR, tk_RR⟩, n_RR⟩
theorem f_RR_58 : g_F "RuleDiagram$RuleReader" 58 3 2 := ⟨R_RR, F_RR, 3, rfl, by decide, uw_RR, w_93⟩
theorem p_RR_58 : g_FP "RuleDiagram$RuleReader" 58 3 2 .int false := ⟨R_RR, F_RR, 3, rfl, by decide, uw_RR, w_93, rfl, by decide +kernel, fun _ => rfl, ⟨ft_RR, tk_RR⟩, n_RR⟩
theorem f_RL_11 : g_F "RuleDiagram$RuleList" 11 5 0 := ⟨R_RL, F_RL, 2, rfl, by decide, uw_RL, w_112⟩
theorem p_RL_11 : g_FP "RuleDiagram$RuleList" 11 5 0 (.array (.object "RuleDiagram$Rule")) true := ⟨R_RL, F_RL, 2, rfl, by decide, uw_RL, w_112, rfl, by decide +kernel, fun _ => rfl, ⟨ft_RL, tk_RL⟩, n_RL⟩
theorem f_RL_18 : g_F "RuleDiagram$RuleList" 18 5 1 := ⟨R_RL, F_RL, 2, rfl, by decide, uw_RL, w_113⟩
theorem p_RL_18 : g_FP "RuleDiagram$RuleList" 18 5 1 .int false := ⟨R_RL, F_RL, 2, rfl, by decide, uw_RL, w_113, rfl, by decide +kernel, fun _ => rfl, ⟨ft_RL, tk_RL⟩, n_RL⟩
theorem f_Cu_7 : g_F "RuleDiagram$Cut" 7 6 0 := ⟨R_Cu, F_Cu, 4, rfl, by decide, uw_Cu, w_131⟩
theorem p_Cu_7 : g_FP "RuleDiagram$Cut" 7 6 0 .int true := ⟨R_Cu, F_Cu, 4, rfl, by decide, uw_Cu, w_131, rfl, by decide +kernel, fun _ => rfl, ⟨ft_Cu, tk_Cu⟩, n_Cu⟩
theorem f_Cu_13 : g_F "RuleDiagram$Cut" 13 6 1 := ⟨R_Cu, F_Cu, 4, rfl, by decide, uw_Cu, w_132⟩
theorem p_Cu_13 : g_FP "RuleDiagram$Cut" 13 6 1 (.array .int) true := ⟨R_Cu, F_Cu, 4, rfl, by decide, uw_Cu, w_132, rfl, by decide +kernel, fun _ => rfl, ⟨ft_Cu, tk_Cu⟩, n_Cu⟩
theorem f_Cu_17 : g_F "RuleDiagram$Cut" 17 6 2 := ⟨R_Cu, F_Cu, 4, rfl, by decide, uw_Cu, w_133⟩
theorem p_Cu_17 : g_FP "RuleDiagram$Cut" 17 6 2 (.array .int) true := ⟨R_Cu, F_Cu, 4, rfl, by decide, uw_Cu, w_133, rfl, by decide +kernel, fun _ => rfl, ⟨ft_Cu, tk_Cu⟩, n_Cu⟩
theorem f_Cu_20 : g_F "RuleDiagram$Cut" 20 6 3 := ⟨R_Cu, F_Cu, 4, rfl, by decide, uw_Cu, w_134⟩
theorem p_Cu_20 : g_FP "RuleDiagram$Cut" 20 6 3 .int false := ⟨R_Cu, F_Cu, 4, rfl, by decide, uw_Cu, w_134, rfl, by decide +kernel, fun _ => rfl, ⟨ft_Cu, tk_Cu⟩, n_Cu⟩
theorem f_Di_9 : g_F "RuleDiagram$Diagram" 9 7 0 := ⟨R_Di, F_Di, 5, rfl, by decide, uw_Di, w_146⟩
theorem p_Di_9 : g_FP "RuleDiagram$Diagram" 9 7 0 (.object "RuleDiagram$RuleList") true := ⟨R_Di, F_Di, 5, rfl, by decide, uw_Di, w_146, rfl, by decide +kernel, fun _ => rfl, ⟨ft_Di, tk_Di⟩, n_Di⟩
theorem f_Di_17 : g_F "RuleDiagram$Diagram" 17 7 1 := ⟨R_Di, F_Di, 5, rfl, by decide, uw_Di, w_147⟩
theorem p_Di_17 : g_FP "RuleDiagram$Diagram" 17 7 1 (.array (.object "RuleDiagram$Cut")) true := ⟨R_Di, F_Di, 5, rfl, by decide, uw_Di, w_147, rfl, by decide +kernel, fun _ => rfl, ⟨ft_Di, tk_Di⟩, n_Di⟩
theorem f_Di_26 : g_F "RuleDiagram$Diagram" 26 7 2 := ⟨R_Di, F_Di, 5, rfl, by decide, uw_Di, w_148⟩
theorem p_Di_26 : g_FP "RuleDiagram$Diagram" 26 7 2 (.array (.array .int)) true := ⟨R_Di, F_Di, 5, rfl, by decide, uw_Di, w_148, rfl, by decide +kernel, fun _ => rfl, ⟨ft_Di, tk_Di⟩, n_Di⟩
theorem f_Di_29 : g_F "RuleDiagram$Diagram" 29 7 3 := ⟨R_Di, F_Di, 5, rfl, by decide, uw_Di, w_149⟩
theorem p_Di_29 : g_FP "RuleDiagram$Diagram" 29 7 3 (.array (.array .int)) true := ⟨R_Di, F_Di, 5, rfl, by decide, uw_Di, w_149, rfl, by decide +kernel, fun _ => rfl, ⟨ft_Di, tk_Di⟩, n_Di⟩
theorem f_Di_32 : g_F "RuleDiagram$Diagram" 32 7 4 := ⟨R_Di, F_Di, 5, rfl, by decide, uw_Di, w_150⟩
theorem p_Di_32 : g_FP "RuleDiagram$Diagram" 32 7 4 .int false := ⟨R_Di, F_Di, 5, rfl, by decide, uw_Di, w_150, rfl, by decide +kernel, fun _ => rfl, ⟨ft_Di, tk_Di⟩, n_Di⟩
theorem f_Co_9 : g_F "RuleDiagram$Comparison" 9 8 0 := ⟨R_Co, F_Co, 3, rfl, by decide, uw_Co, w_170⟩
theorem p_Co_9 : g_FP "RuleDiagram$Comparison" 9 8 0 (.object "RuleDiagram$RuleList") true := ⟨R_Co, F_Co, 3, rfl, by decide, uw_Co, w_170, rfl, by decide +kernel, fun _ => rfl, ⟨ft_Co, tk_Co⟩, n_Co⟩
theorem f_Co_15 : g_F "RuleDiagram$Comparison" 15 8 1 := ⟨R_Co, F_Co, 3, rfl, by decide, uw_Co, w_171⟩
theorem p_Co_15 : g_FP "RuleDiagram$Comparison" 15 8 1 (.object "RuleDiagram$RuleList") true := ⟨R_Co, F_Co, 3, rfl, by decide, uw_Co, w_171, rfl, by decide +kernel, fun _ => rfl, ⟨ft_Co, tk_Co⟩, n_Co⟩
theorem f_Co_20 : g_F "RuleDiagram$Comparison" 20 8 2 := ⟨R_Co, F_Co, 3, rfl, by decide, uw_Co, w_172⟩
theorem p_Co_20 : g_FP "RuleDiagram$Comparison" 20 8 2 (.array (.object "RuleDiagram$Cut")) true := ⟨R_Co, F_Co, 3, rfl, by decide, uw_Co, w_172, rfl, by decide +kernel, fun _ => rfl, ⟨ft_Co, tk_Co⟩, n_Co⟩
theorem f_Ga_9 : g_F "RuleDiagram$Gate" 9 9 0 := ⟨R_Ga, F_Ga, 2, rfl, by decide, uw_Ga, w_186⟩
theorem p_Ga_9 : g_FP "RuleDiagram$Gate" 9 9 0 (.array .int) true := ⟨R_Ga, F_Ga, 2, rfl, by decide, uw_Ga, w_186, rfl, by decide +kernel, fun _ => rfl, ⟨ft_Ga, tk_Ga⟩, n_Ga⟩
theorem f_Ga_15 : g_F "RuleDiagram$Gate" 15 9 1 := ⟨R_Ga, F_Ga, 2, rfl, by decide, uw_Ga, w_187⟩
theorem p_Ga_15 : g_FP "RuleDiagram$Gate" 15 9 1 .int false := ⟨R_Ga, F_Ga, 2, rfl, by decide, uw_Ga, w_187, rfl, by decide +kernel, fun _ => rfl, ⟨ft_Ga, tk_Ga⟩, n_Ga⟩
theorem f_RD_12 : g_F "RuleDiagram" 12 0 0 := ⟨R_RD, F_RD, 6, rfl, by decide, uw_RD, w_193⟩
theorem p_RD_12 : g_FP "RuleDiagram" 12 0 0 (.object "RuleDiagram$Text") true := ⟨R_RD, F_RD, 6, rfl, by decide, uw_RD, w_193, rfl, by decide +kernel, fun _ => rfl, ⟨ft_RD, tk_RD⟩, n_RD⟩
theorem f_RD_21 : g_F "RuleDiagram" 21 0 1 := ⟨R_RD, F_RD, 6, rfl, by decide, uw_RD, w_194⟩
theorem p_RD_21 : g_FP "RuleDiagram" 21 0 1 (.object "RuleDiagram$RuleReader") true := ⟨R_RD, F_RD, 6, rfl, by decide, uw_RD, w_194, rfl, by decide +kernel, fun _ => rfl, ⟨ft_RD, tk_RD⟩, n_RD⟩
theorem f_RD_27 : g_F "RuleDiagram" 27 0 2 := ⟨R_RD, F_RD, 6, rfl, by decide, uw_RD, w_195⟩
theorem p_RD_27 : g_FP "RuleDiagram" 27 0 2 (.array (.object "RuleDiagram$RuleList")) true := ⟨R_RD, F_RD, 6, rfl, by decide, uw_RD, w_195, rfl, by decide +kernel, fun _ => rfl, ⟨ft_RD, tk_RD⟩, n_RD⟩
theorem f_RD_33 : g_F "RuleDiagram" 33 0 3 := ⟨R_RD, F_RD, 6, rfl, by decide, uw_RD, w_196⟩
theorem p_RD_33 : g_FP "RuleDiagram" 33 0 3 (.array (.object "RuleDiagram$Diagram")) true := ⟨R_RD, F_RD, 6, rfl, by decide, uw_RD, w_196, rfl, by decide +kernel, fun _ => rfl, ⟨ft_RD, tk_RD⟩, n_RD⟩
theorem f_RD_46 : g_F "RuleDiagram" 46 0 4 := ⟨R_RD, F_RD, 6, rfl, by decide, uw_RD, w_197⟩
theorem p_RD_46 : g_FP "RuleDiagram" 46 0 4 (.object "RuleDiagram$Comparison") true := ⟨R_RD, F_RD, 6, rfl, by decide, uw_RD, w_197, rfl, by decide +kernel, fun _ => rfl, ⟨ft_RD, tk_RD⟩, n_RD⟩
theorem f_RD_53 : g_F "RuleDiagram" 53 0 5 := ⟨R_RD, F_RD, 6, rfl, by decide, uw_RD, w_198⟩
theorem p_RD_53 : g_FP "RuleDiagram" 53 0 5 (.object "RuleDiagram$Gate") true := ⟨R_RD, F_RD, 6, rfl, by decide, uw_RD, w_198, rfl, by decide +kernel, fun _ => rfl, ⟨ft_RD, tk_RD⟩, n_RD⟩
theorem f_Mo_46 : g_F "RuleDiagramModel" 46 10 0 := ⟨R_Mo, F_Mo, 18, rfl, by decide, uw_Mo, w_906⟩
theorem p_Mo_46 : g_FP "RuleDiagramModel" 46 10 0 .int false := ⟨R_Mo, F_Mo, 18, rfl, by decide, uw_Mo, w_906, rfl, by decide +kernel, fun _ => rfl, ⟨ft_Mo, tk_Mo⟩, n_Mo⟩
theorem f_Mo_7 : g_F "RuleDiagramModel" 7 10 1 := ⟨R_Mo, F_Mo, 18, rfl, by decide, uw_Mo, w_907⟩
theorem p_Mo_7 : g_FP "RuleDiagramModel" 7 10 1 (.array .int) true := ⟨R_Mo, F_Mo, 18, rfl, by decide, uw_Mo, w_907, rfl, by decide +kernel, fun _ => rfl, ⟨ft_Mo, tk_Mo⟩, n_Mo⟩
theorem f_Mo_54 : g_F "RuleDiagramModel" 54 10 2 := ⟨R_Mo, F_Mo, 18, rfl, by decide, uw_Mo, w_908⟩
theorem p_Mo_54 : g_FP "RuleDiagramModel" 54 10 2 .int false := ⟨R_Mo, F_Mo, 18, rfl, by decide, uw_Mo, w_908, rfl, by decide +kernel, fun _ => rfl, ⟨ft_Mo, tk_Mo⟩, n_Mo⟩
theorem f_Mo_13 : g_F "RuleDiagramModel" 13 10 3 := ⟨R_Mo, F_Mo, 18, rfl, by decide, uw_Mo, w_909⟩
theorem p_Mo_13 : g_FP "RuleDiagramModel" 13 10 3 (.array .int) true := ⟨R_Mo, F_Mo, 18, rfl, by decide, uw_Mo, w_909, rfl, by decide +kernel, fun _ => rfl, ⟨ft_Mo, tk_Mo⟩, n_Mo⟩
theorem f_Mo_16 : g_F "RuleDiagramModel" 16 10 4 := ⟨R_Mo, F_Mo, 18, rfl, by decide, uw_Mo, w_910⟩
theorem p_Mo_16 : g_FP "RuleDiagramModel" 16 10 4 (.array .int) true := ⟨R_Mo, F_Mo, 18, rfl, by decide, uw_Mo, w_910, rfl, by decide +kernel, fun _ => rfl, ⟨ft_Mo, tk_Mo⟩, n_Mo⟩
theorem f_Mo_19 : g_F "RuleDiagramModel" 19 10 5 := ⟨R_Mo, F_Mo, 18, rfl, by decide, uw_Mo, w_911⟩
theorem p_Mo_19 : g_FP "RuleDiagramModel" 19 10 5 (.array .int) true := ⟨R_Mo, F_Mo, 18, rfl, by decide, uw_Mo, w_911, rfl, by decide +kernel, fun _ => rfl, ⟨ft_Mo, tk_Mo⟩, n_Mo⟩
theorem f_Mo_22 : g_F "RuleDiagramModel" 22 10 6 := ⟨R_Mo, F_Mo, 18, rfl, by decide, uw_Mo, w_912⟩
theorem p_Mo_22 : g_FP "RuleDiagramModel" 22 10 6 (.array .int) true := ⟨R_Mo, F_Mo, 18, rfl, by decide, uw_Mo, w_912, rfl, by decide +kernel, fun _ => rfl, ⟨ft_Mo, tk_Mo⟩, n_Mo⟩
theorem f_Mo_25 : g_F "RuleDiagramModel" 25 10 7 := ⟨R_Mo, F_Mo, 18, rfl, by decide, uw_Mo, w_913⟩
theorem p_Mo_25 : g_FP "RuleDiagramModel" 25 10 7 (.array .int) true := ⟨R_Mo, F_Mo, 18, rfl, by decide, uw_Mo, w_913, rfl, by decide +kernel, fun _ => rfl, ⟨ft_Mo, tk_Mo⟩, n_Mo⟩
theorem f_Mo_185 : g_F "RuleDiagramModel" 185 10 8 := ⟨R_Mo, F_Mo, 18, rfl, by decide, uw_Mo, w_914⟩
theorem p_Mo_185 : g_FP "RuleDiagramModel" 185 10 8 .int false := ⟨R_Mo, F_Mo, 18, rfl, by decide, uw_Mo, w_914, rfl, by decide +kernel, fun _ => rfl, ⟨ft_Mo, tk_Mo⟩, n_Mo⟩
theorem f_Mo_28 : g_F "RuleDiagramModel" 28 10 9 := ⟨R_Mo, F_Mo, 18, rfl, by decide, uw_Mo, w_915⟩
theorem p_Mo_28 : g_FP "RuleDiagramModel" 28 10 9 (.array .int) true := ⟨R_Mo, F_Mo, 18, rfl, by decide, uw_Mo, w_915, rfl, by decide +kernel, fun _ => rfl, ⟨ft_Mo, tk_Mo⟩, n_Mo⟩
theorem f_Mo_31 : g_F "RuleDiagramModel" 31 10 10 := ⟨R_Mo, F_Mo, 18, rfl, by decide, uw_Mo, w_916⟩
theorem p_Mo_31 : g_FP "RuleDiagramModel" 31 10 10 (.array .int) true := ⟨R_Mo, F_Mo, 18, rfl, by decide, uw_Mo, w_916, rfl, by decide +kernel, fun _ => rfl, ⟨ft_Mo, tk_Mo⟩, n_Mo⟩
theorem f_Mo_34 : g_F "RuleDiagramModel" 34 10 11 := ⟨R_Mo, F_Mo, 18, rfl, by decide, uw_Mo, w_917⟩
theorem p_Mo_34 : g_FP "RuleDiagramModel" 34 10 11 (.array .int) true := ⟨R_Mo, F_Mo, 18, rfl, by decide, uw_Mo, w_917, rfl, by decide +kernel, fun _ => rfl, ⟨ft_Mo, tk_Mo⟩, n_Mo⟩
theorem f_Mo_37 : g_F "RuleDiagramModel" 37 10 12 := ⟨R_Mo, F_Mo, 18, rfl, by decide, uw_Mo, w_918⟩
theorem p_Mo_37 : g_FP "RuleDiagramModel" 37 10 12 (.array .int) true := ⟨R_Mo, F_Mo, 18, rfl, by decide, uw_Mo, w_918, rfl, by decide +kernel, fun _ => rfl, ⟨ft_Mo, tk_Mo⟩, n_Mo⟩
theorem f_Mo_40 : g_F "RuleDiagramModel" 40 10 13 := ⟨R_Mo, F_Mo, 18, rfl, by decide, uw_Mo, w_919⟩
theorem p_Mo_40 : g_FP "RuleDiagramModel" 40 10 13 (.array .int) true := ⟨R_Mo, F_Mo, 18, rfl, by decide, uw_Mo, w_919, rfl, by decide +kernel, fun _ => rfl, ⟨ft_Mo, tk_Mo⟩, n_Mo⟩
theorem f_Mo_43 : g_F "RuleDiagramModel" 43 10 14 := ⟨R_Mo, F_Mo, 18, rfl, by decide, uw_Mo, w_920⟩
theorem p_Mo_43 : g_FP "RuleDiagramModel" 43 10 14 (.array .int) true := ⟨R_Mo, F_Mo, 18, rfl, by decide, uw_Mo, w_920, rfl, by decide +kernel, fun _ => rfl, ⟨ft_Mo, tk_Mo⟩, n_Mo⟩
theorem f_Mo_102 : g_F "RuleDiagramModel" 102 10 15 := ⟨R_Mo, F_Mo, 18, rfl, by decide, uw_Mo, w_921⟩
theorem p_Mo_102 : g_FP "RuleDiagramModel" 102 10 15 .int false := ⟨R_Mo, F_Mo, 18, rfl, by decide, uw_Mo, w_921, rfl, by decide +kernel, fun _ => rfl, ⟨ft_Mo, tk_Mo⟩, n_Mo⟩
theorem f_Mo_61 : g_F "RuleDiagramModel" 61 10 16 := ⟨R_Mo, F_Mo, 18, rfl, by decide, uw_Mo, w_922⟩
theorem p_Mo_61 : g_FP "RuleDiagramModel" 61 10 16 .int false := ⟨R_Mo, F_Mo, 18, rfl, by decide, uw_Mo, w_922, rfl, by decide +kernel, fun _ => rfl, ⟨ft_Mo, tk_Mo⟩, n_Mo⟩
theorem f_Mo_67 : g_F "RuleDiagramModel" 67 10 17 := ⟨R_Mo, F_Mo, 18, rfl, by decide, uw_Mo, w_923⟩
theorem p_Mo_67 : g_FP "RuleDiagramModel" 67 10 17 .int false := ⟨R_Mo, F_Mo, 18, rfl, by decide, uw_Mo, w_923, rfl, by decide +kernel, fun _ => rfl, ⟨ft_Mo, tk_Mo⟩, n_Mo⟩
theorem s_La_68 : g_S "RuleDiagramLaw" 68 y_RD_init c_RD_init 2 (Option.none : Option FieldType) 0 := ⟨w_28, w_1, w_30, ⟨by decide, by decide⟩, by decide +kernel, by decide⟩
theorem s_RD_11 : g_S "RuleDiagram" 11 y_Tx_init c_Tx_init 1 (Option.none : Option FieldType) 0 := ⟨w_36, w_2, w_38, ⟨by decide, by decide⟩, by decide +kernel, by decide⟩
theorem s_RD_18 : g_S "RuleDiagram" 18 y_RR_init c_RR_init 3 (Option.none : Option FieldType) 1 := ⟨w_50, w_3, w_52, ⟨by decide, by decide⟩, by decide +kernel, by decide⟩
theorem s_RR_11 : g_S "RuleDiagram$RuleReader" 11 y_Pi_init c_Pi_init 2 (Option.none : Option FieldType) 1 := ⟨w_56, w_4, w_58, ⟨by decide, by decide⟩, by decide +kernel, by decide⟩
theorem s_RR_26 : g_S "RuleDiagram$RuleReader" 26 y_Ru_init c_Ru_init 1 (Option.none : Option FieldType) 0 := ⟨w_76, w_5, w_78, ⟨by decide, by decide⟩, by decide +kernel, by decide⟩
theorem s_RD_37 : g_S "RuleDiagram" 37 y_RL_init c_RL_init 2 (Option.none : Option FieldType) 0 := ⟨w_106, w_6, w_108, ⟨by decide, by decide⟩, by decide +kernel, by decide⟩
theorem s_RL_17 : g_S "RuleDiagram$RuleList" 17 y_Ru_init c_Ru_init 1 (Option.none : Option FieldType) 0 := ⟨w_111, w_5, w_78, ⟨by decide, by decide⟩, by decide +kernel, by decide⟩
theorem s_RD_38 : g_S "RuleDiagram" 38 y_Di_init c_Di_init 3 (Option.none : Option FieldType) 1 := ⟨w_120, w_7, w_122, ⟨by decide, by decide⟩, by decide +kernel, by decide⟩
theorem s_Di_21 : g_S "RuleDiagram$Diagram" 21 y_Cu_init c_Cu_init 3 (Option.none : Option FieldType) 2 := ⟨w_127, w_8, w_129, ⟨by decide, by decide⟩, by decide +kernel, by decide⟩
theorem s_RD_43 : g_S "RuleDiagram" 43 y_Co_init c_Co_init 4 (Option.none : Option FieldType) 2 := ⟨w_164, w_9, w_166, ⟨by decide, by decide⟩, by decide +kernel, by decide⟩
theorem s_Co_24 : g_S "RuleDiagram$Comparison" 24 y_Cu_init c_Cu_init 3 (Option.none : Option FieldType) 2 := ⟨w_169, w_8, w_129, ⟨by decide, by decide⟩, by decide +kernel, by decide⟩
theorem s_RD_52 : g_S "RuleDiagram" 52 y_Ga_init c_Ga_init 1 (Option.none : Option FieldType) 0 := ⟨w_182, w_10, w_184, ⟨by decide, by decide⟩, by decide +kernel, by decide⟩
theorem s_La_116 : g_S "RuleDiagramLaw" 116 y_RD_differing c_RD_differing 1 (Option.some FieldType.int) 0 := ⟨w_212, w_1, w_215, ⟨by decide, by decide⟩, by decide +kernel, by decide⟩
theorem s_RD_157 : g_S "RuleDiagram" 157 y_Co_compile c_Co_compile 2 (Option.none : Option FieldType) 0 := ⟨w_216, w_9, w_219, ⟨by decide, by decide⟩, by decide +kernel, by decide⟩
theorem s_Co_27 : g_S "RuleDiagram$Comparison" 27 y_Cu_clear c_Cu_clear 1 (Option.none : Option FieldType) 0 := ⟨w_220, w_8, w_223, ⟨by decide, by decide⟩, by decide +kernel, by decide⟩
theorem s_Cu_23 : g_S "RuleDiagram$Cut" 23 y_Arr_fill c_Arr_fill 4 (Option.none : Option FieldType) 2 := ⟨w_224, w_23, w_226, ⟨by decide, by decide⟩, by decide +kernel, by decide⟩
theorem s_Co_30 : g_S "RuleDiagram$Comparison" 30 y_Cu_cutBy c_Cu_cutBy 3 (Option.none : Option FieldType) 1 := ⟨w_227, w_8, w_230, ⟨by decide, by decide⟩, by decide +kernel, by decide⟩
theorem s_Cu_29 : g_S "RuleDiagram$Cut" 29 y_RL_size c_RL_size 1 (Option.some FieldType.int) 0 := ⟨w_231, w_6, w_234, ⟨by decide, by decide⟩, by decide +kernel, by decide⟩
theorem s_Cu_34 : g_S "RuleDiagram$Cut" 34 y_RL_at c_RL_at 2 (Option.some (FieldType.object "RuleDiagram$Rule")) 1 := ⟨w_235, w_6, w_238, ⟨by decide, by decide⟩, by decide +kernel, by decide⟩
theorem s_Cu_38 : g_S "RuleDiagram$Cut" 38 y_Ru_leastOf c_Ru_leastOf 2 (Option.some FieldType.int) 1 := ⟨w_239, w_5, w_242, ⟨by decide, by decide⟩, by decide +kernel, by decide⟩
theorem s_Cu_44 : g_S "RuleDiagram$Cut" 44 y_Cu_startRow c_Cu_startRow 4 (Option.none : Option FieldType) 1 := ⟨w_243, w_8, w_246, ⟨by decide, by decide⟩, by decide +kernel, by decide⟩
theorem s_Cu_48 : g_S "RuleDiagram$Cut" 48 y_Ru_behindGreatestOf c_Ru_behindGreatestOf 2 (Option.some FieldType.int) 1 := ⟨w_255, w_5, w_258, ⟨by decide, by decide⟩, by decide +kernel, by decide⟩
theorem s_Co_34 : g_S "RuleDiagram$Comparison" 34 y_Cu_mark c_Cu_mark 4 (Option.none : Option FieldType) 2 := ⟨w_259, w_8, w_262, ⟨by decide, by decide⟩, by decide +kernel, by decide⟩
theorem s_Cu_51 : g_S "RuleDiagram$Cut" 51 y_RL_agreeing c_RL_agreeing 5 (Option.some FieldType.int) 2 := ⟨w_263, w_6, w_266, ⟨by decide, by decide⟩, by decide +kernel, by decide⟩
theorem s_RL_45 : g_S "RuleDiagram$RuleList" 45 y_Ru_matchesValue c_Ru_matchesValue 3 (Option.some FieldType.boolean) 2 := ⟨w_267, w_5, w_270, ⟨by decide, by decide⟩, by decide +kernel, by decide⟩
theorem s_RD_158 : g_S "RuleDiagram" 158 y_Co_unlikePackets c_Co_unlikePackets 1 (Option.some FieldType.int) 0 := ⟨w_271, w_9, w_274, ⟨by decide, by decide⟩, by decide +kernel, by decide⟩
theorem s_Co_38 : g_S "RuleDiagram$Comparison" 38 y_Co_everyRule c_Co_everyRule 0 (Option.some FieldType.int) 0 := ⟨w_275, w_9, w_277, ⟨by decide, by decide⟩, by decide +kernel, by decide⟩
theorem s_Co_42 : g_S "RuleDiagram$Comparison" 42 y_Co_unlikeFrom c_Co_unlikeFrom 9 (Option.some FieldType.int) 3 := ⟨w_279, w_9, w_281, ⟨by decide, by decide⟩, by decide +kernel, by decide⟩
theorem s_Co_64 : g_S "RuleDiagram$Comparison" 64 y_Co_judgesUnlike c_Co_judgesUnlike 4 (Option.some FieldType.boolean) 1 := ⟨w_282, w_9, w_285, ⟨by decide, by decide⟩, by decide +kernel, by decide⟩
theorem s_Co_71 : g_S "RuleDiagram$Comparison" 71 y_RL_judgeSet c_RL_judgeSet 2 (Option.some FieldType.int) 1 := ⟨w_286, w_6, w_289, ⟨by decide, by decide⟩, by decide +kernel, by decide⟩
theorem s_RD_213 : g_S "RuleDiagram" 213 y_Int_bitCount c_Int_bitCount 1 (Option.some FieldType.int) 1 := ⟨w_293, w_25, w_295, ⟨by decide, by decide⟩, by decide +kernel, by decide⟩
theorem s_RL_38 : g_S "RuleDiagram$RuleList" 38 y_Ru_judgement c_Ru_judgement 1 (Option.some FieldType.int) 0 := ⟨w_299, w_5, w_302, ⟨by decide, by decide⟩, by decide +kernel, by decide⟩
theorem s_Co_61 : g_S "RuleDiagram$Comparison" 61 y_Cu_size c_Cu_size 1 (Option.some FieldType.int) 0 := ⟨w_303, w_8, w_306, ⟨by decide, by decide⟩, by decide +kernel, by decide⟩
theorem s_Co_58 : g_S "RuleDiagram$Comparison" 58 y_Cu_set c_Cu_set 2 (Option.some FieldType.int) 1 := ⟨w_307, w_8, w_310, ⟨by decide, by decide⟩, by decide +kernel, by decide⟩
theorem s_Co_68 : g_S "RuleDiagram$Comparison" 68 y_Cu_width c_Cu_width 3 (Option.some FieldType.int) 1 := ⟨w_311, w_8, w_314, ⟨by decide, by decide⟩, by decide +kernel, by decide⟩
theorem s_La_7 : g_S "RuleDiagramLaw" 7 y_RD_put c_RD_put 2 (Option.some FieldType.int) 1 := ⟨w_320, w_1, w_323, ⟨by decide, by decide⟩, by decide +kernel, by decide⟩
theorem s_RD_57 : g_S "RuleDiagram" 57 y_Tx_areSigns c_Tx_areSigns 1 (Option.some FieldType.boolean) 1 := ⟨w_324, w_2, w_326, ⟨by decide, by decide⟩, by decide +kernel, by decide⟩
theorem s_RD_65 : g_S "RuleDiagram" 65 y_Iae_init c_Iae_init 2 (Option.none : Option FieldType) 1 := ⟨w_370, w_15, w_372, ⟨by decide, by decide⟩, by decide +kernel, by decide⟩
theorem s_Iae_7 : g_S "java/lang/IllegalArgumentException" 7 y_Rte_init c_Rte_init 2 (Option.none : Option FieldType) 1 := ⟨w_373, w_14, w_375, ⟨by decide, by decide⟩, by decide +kernel, by decide⟩
theorem s_Rte_7 : g_S "java/lang/RuntimeException" 7 y_Exc_init c_Exc_init 2 (Option.none : Option FieldType) 1 := ⟨w_376, w_13, w_378, ⟨by decide, by decide⟩, by decide +kernel, by decide⟩
theorem s_Exc_7 : g_S "java/lang/Exception" 7 y_Thr_init2 c_Thr_init2 2 (Option.none : Option FieldType) 1 := ⟨w_379, w_12, w_381, ⟨by decide, by decide⟩, by decide +kernel, by decide⟩
theorem s_RD_68 : g_S "RuleDiagram" 68 y_Tx_hasRoomFor c_Tx_hasRoomFor 4 (Option.some FieldType.boolean) 1 := ⟨w_396, w_2, w_399, ⟨by decide, by decide⟩, by decide +kernel, by decide⟩
theorem s_Tx_20 : g_S "RuleDiagram$Text" 20 y_Tx_signOf c_Tx_signOf 2 (Option.some FieldType.int) 2 := ⟨w_400, w_2, w_402, ⟨by decide, by decide⟩, by decide +kernel, by decide⟩
theorem s_RD_75 : g_S "RuleDiagram" 75 y_Uoe_init c_Uoe_init 2 (Option.none : Option FieldType) 1 := ⟨w_413, w_16, w_415, ⟨by decide, by decide⟩, by decide +kernel, by decide⟩
theorem s_Uoe_7 : g_S "java/lang/UnsupportedOperationException" 7 y_Rte_init c_Rte_init 2 (Option.none : Option FieldType) 1 := ⟨w_416, w_14, w_375, ⟨by decide, by decide⟩, by decide +kernel, by decide⟩
theorem s_RD_76 : g_S "RuleDiagram" 76 y_Tx_append c_Tx_append 4 (Option.none : Option FieldType) 1 := ⟨w_419, w_2, w_422, ⟨by decide, by decide⟩, by decide +kernel, by decide⟩
theorem s_RD_80 : g_S "RuleDiagram" 80 y_Tx_length c_Tx_length 1 (Option.some FieldType.int) 0 := ⟨w_423, w_2, w_426, ⟨by decide, by decide⟩, by decide +kernel, by decide⟩
theorem s_La_17 : g_S "RuleDiagramLaw" 17 y_RD_read c_RD_read 4 (Option.some FieldType.int) 1 := ⟨w_431, w_1, w_434, ⟨by decide, by decide⟩, by decide +kernel, by decide⟩
theorem s_RD_84 : g_S "RuleDiagram" 84 y_RD_requireList c_RD_requireList 2 (Option.none : Option FieldType) 1 := ⟨w_435, w_1, w_438, ⟨by decide, by decide⟩, by decide +kernel, by decide⟩
theorem s_RD_189 : g_S "RuleDiagram" 189 y_Ioe_init c_Ioe_init 2 (Option.none : Option FieldType) 1 := ⟨w_449, w_17, w_451, ⟨by decide, by decide⟩, by decide +kernel, by decide⟩
theorem s_Ioe_7 : g_S "java/lang/IndexOutOfBoundsException" 7 y_Rte_init c_Rte_init 2 (Option.none : Option FieldType) 1 := ⟨w_452, w_14, w_375, ⟨by decide, by decide⟩, by decide +kernel, by decide⟩
theorem s_RD_87 : g_S "RuleDiagram" 87 y_RR_readText c_RR_readText 2 (Option.some FieldType.int) 0 := ⟨w_455, w_3, w_458, ⟨by decide, by decide⟩, by decide +kernel, by decide⟩
theorem s_RR_27 : g_S "RuleDiagram$RuleReader" 27 y_Pi_restart c_Pi_restart 1 (Option.none : Option FieldType) 0 := ⟨w_459, w_4, w_462, ⟨by decide, by decide⟩, by decide +kernel, by decide⟩
theorem s_Pi_19 : g_S "RuleDiagram$Pieces" 19 y_Pi_step c_Pi_step 1 (Option.none : Option FieldType) 0 := ⟨w_463, w_4, w_466, ⟨by decide, by decide⟩, by decide +kernel, by decide⟩
theorem s_Pi_24 : g_S "RuleDiagram$Pieces" 24 y_Tx_behind c_Tx_behind 4 (Option.some FieldType.int) 2 := ⟨w_467, w_2, w_470, ⟨by decide, by decide⟩, by decide +kernel, by decide⟩
theorem s_Tx_24 : g_S "RuleDiagram$Text" 24 y_Tx_kindAt c_Tx_kindAt 3 (Option.some FieldType.int) 1 := ⟨w_471, w_2, w_474, ⟨by decide, by decide⟩, by decide +kernel, by decide⟩
theorem s_Pi_31 : g_S "RuleDiagram$Pieces" 31 y_Tx_kindAt c_Tx_kindAt 3 (Option.some FieldType.int) 1 := ⟨w_475, w_2, w_474, ⟨by decide, by decide⟩, by decide +kernel, by decide⟩
theorem s_RR_30 : g_S "RuleDiagram$RuleReader" 30 y_Pi_isEnd c_Pi_isEnd 1 (Option.some FieldType.boolean) 0 := ⟨w_476, w_4, w_479, ⟨by decide, by decide⟩, by decide +kernel, by decide⟩
theorem s_RR_34 : g_S "RuleDiagram$RuleReader" 34 y_Mat_min c_Mat_min 2 (Option.some FieldType.int) 2 := ⟨w_480, w_18, w_482, ⟨by decide, by decide⟩, by decide +kernel, by decide⟩
theorem s_RR_40 : g_S "RuleDiagram$RuleReader" 40 y_RR_readRule c_RR_readRule 5 (Option.some FieldType.boolean) 1 := ⟨w_483, w_3, w_486, ⟨by decide, by decide⟩, by decide +kernel, by decide⟩
theorem s_RR_48 : g_S "RuleDiagram$RuleReader" 48 y_RR_verdictHere c_RR_verdictHere 2 (Option.some FieldType.int) 0 := ⟨w_487, w_3, w_490, ⟨by decide, by decide⟩, by decide +kernel, by decide⟩
theorem s_RR_111 : g_S "RuleDiagram$RuleReader" 111 y_RR_verdictName c_RR_verdictName 1 (Option.some (FieldType.object "java/lang/String")) 1 := ⟨w_491, w_3, w_493, ⟨by decide, by decide⟩, by decide +kernel, by decide⟩
theorem s_RR_81 : g_S "RuleDiagram$RuleReader" 81 y_Pi_isWord c_Pi_isWord 3 (Option.some FieldType.boolean) 1 := ⟨w_497, w_4, w_500, ⟨by decide, by decide⟩, by decide +kernel, by decide⟩
theorem s_Pi_42 : g_S "RuleDiagram$Pieces" 42 y_Str_length c_Str_length 1 (Option.some FieldType.int) 0 := ⟨w_501, w_19, w_504, ⟨by decide, by decide⟩, by decide +kernel, by decide⟩
theorem s_Str_335 : g_S "java/lang/String" 335 y_Str_coder c_Str_coder 1 (Option.some FieldType.byte) 0 := ⟨w_505, w_19, w_508, ⟨by decide, by decide⟩, by decide +kernel, by decide⟩
theorem s_Pi_38 : g_S "RuleDiagram$Pieces" 38 y_Tx_at c_Tx_at 2 (Option.some FieldType.char) 1 := ⟨w_511, w_2, w_514, ⟨by decide, by decide⟩, by decide +kernel, by decide⟩
theorem s_Pi_48 : g_S "RuleDiagram$Pieces" 48 y_Str_charAt c_Str_charAt 2 (Option.some FieldType.char) 1 := ⟨w_515, w_19, w_518, ⟨by decide, by decide⟩, by decide +kernel, by decide⟩
theorem s_Str_492 : g_S "java/lang/String" 492 y_Str_isLatin1 c_Str_isLatin1 1 (Option.some FieldType.boolean) 0 := ⟨w_519, w_19, w_522, ⟨by decide, by decide⟩, by decide +kernel, by decide⟩
theorem s_Str_495 : g_S "java/lang/String" 495 y_SLa_charAt c_SLa_charAt 2 (Option.some FieldType.char) 2 := ⟨w_523, w_20, w_525, ⟨by decide, by decide⟩, by decide +kernel, by decide⟩
theorem s_SLa_9 : g_S "java/lang/StringLatin1" 9 y_Str_checkIndex c_Str_checkIndex 2 (Option.none : Option FieldType) 2 := ⟨w_526, w_19, w_528, ⟨by decide, by decide⟩, by decide +kernel, by decide⟩
theorem s_Str_1059 : g_S "java/lang/String" 1059 y_Pre_checkIndex c_Pre_checkIndex 3 (Option.some FieldType.int) 3 := ⟨w_531, w_21, w_533, ⟨by decide, by decide⟩, by decide +kernel, by decide⟩
theorem s_Str_498 : g_S "java/lang/String" 498 y_SUt_charAt c_SUt_charAt 2 (Option.some FieldType.char) 2 := ⟨w_534, w_22, w_536, ⟨by decide, by decide⟩, by decide +kernel, by decide⟩
theorem s_SUt_67 : g_S "java/lang/StringUTF16" 67 y_SUt_checkIndex c_SUt_checkIndex 2 (Option.none : Option FieldType) 2 := ⟨w_537, w_22, w_539, ⟨by decide, by decide⟩, by decide +kernel, by decide⟩
theorem s_SUt_48 : g_S "java/lang/StringUTF16" 48 y_SUt_length c_SUt_length 1 (Option.some FieldType.int) 1 := ⟨w_540, w_22, w_542, ⟨by decide, by decide⟩, by decide +kernel, by decide⟩
theorem s_SUt_414 : g_S "java/lang/StringUTF16" 414 y_Str_checkIndex c_Str_checkIndex 2 (Option.none : Option FieldType) 2 := ⟨w_543, w_19, w_528, ⟨by decide, by decide⟩, by decide +kernel, by decide⟩
theorem s_SUt_71 : g_S "java/lang/StringUTF16" 71 y_SUt_getChar c_SUt_getChar 2 (Option.some FieldType.char) 2 := ⟨w_544, w_22, w_546, ⟨by decide, by decide⟩, by decide +kernel, by decide⟩
theorem s_RR_51 : g_S "RuleDiagram$RuleReader" 51 y_Pi_step c_Pi_step 1 (Option.none : Option FieldType) 0 := ⟨w_553, w_4, w_466, ⟨by decide, by decide⟩, by decide +kernel, by decide⟩
theorem s_RR_54 : g_S "RuleDiagram$RuleReader" 54 y_Ru_start c_Ru_start 3 (Option.none : Option FieldType) 1 := ⟨w_554, w_5, w_557, ⟨by decide, by decide⟩, by decide +kernel, by decide⟩
theorem s_Ru_26 : g_S "RuleDiagram$Rule" 26 y_Ru_narrow c_Ru_narrow 4 (Option.none : Option FieldType) 3 := ⟨w_559, w_5, w_562, ⟨by decide, by decide⟩, by decide +kernel, by decide⟩
theorem s_RR_62 : g_S "RuleDiagram$RuleReader" 62 y_Pi_isSign c_Pi_isSign 2 (Option.some FieldType.boolean) 1 := ⟨w_563, w_4, w_566, ⟨by decide, by decide⟩, by decide +kernel, by decide⟩
theorem s_RR_66 : g_S "RuleDiagram$RuleReader" 66 y_RR_readName c_RR_readName 2 (Option.some FieldType.int) 0 := ⟨w_567, w_3, w_570, ⟨by decide, by decide⟩, by decide +kernel, by decide⟩
theorem s_RR_76 : g_S "RuleDiagram$RuleReader" 76 y_RR_fieldHere c_RR_fieldHere 2 (Option.some FieldType.int) 0 := ⟨w_571, w_3, w_574, ⟨by decide, by decide⟩, by decide +kernel, by decide⟩
theorem s_RR_115 : g_S "RuleDiagram$RuleReader" 115 y_RR_fieldName c_RR_fieldName 1 (Option.some (FieldType.object "java/lang/String")) 1 := ⟨w_575, w_3, w_577, ⟨by decide, by decide⟩, by decide +kernel, by decide⟩
theorem s_RR_69 : g_S "RuleDiagram$RuleReader" 69 y_RR_readRange c_RR_readRange 4 (Option.some FieldType.boolean) 2 := ⟨w_582, w_3, w_585, ⟨by decide, by decide⟩, by decide +kernel, by decide⟩
theorem s_RR_89 : g_S "RuleDiagram$RuleReader" 89 y_Pi_isNumber c_Pi_isNumber 4 (Option.some FieldType.boolean) 2 := ⟨w_588, w_4, w_591, ⟨by decide, by decide⟩, by decide +kernel, by decide⟩
theorem s_Pi_51 : g_S "RuleDiagram$Pieces" 51 y_Pi_number c_Pi_number 3 (Option.some FieldType.int) 0 := ⟨w_592, w_4, w_595, ⟨by decide, by decide⟩, by decide +kernel, by decide⟩
theorem s_RR_93 : g_S "RuleDiagram$RuleReader" 93 y_Pi_number c_Pi_number 3 (Option.some FieldType.int) 0 := ⟨w_596, w_4, w_595, ⟨by decide, by decide⟩, by decide +kernel, by decide⟩
theorem s_RR_73 : g_S "RuleDiagram$RuleReader" 73 y_RR_skipSign c_RR_skipSign 2 (Option.some FieldType.boolean) 1 := ⟨w_597, w_3, w_600, ⟨by decide, by decide⟩, by decide +kernel, by decide⟩
theorem s_RR_96 : g_S "RuleDiagram$RuleReader" 96 y_RR_readGreatest c_RR_readGreatest 4 (Option.some FieldType.boolean) 3 := ⟨w_601, w_3, w_604, ⟨by decide, by decide⟩, by decide +kernel, by decide⟩
theorem s_RR_103 : g_S "RuleDiagram$RuleReader" 103 y_Ru_narrow c_Ru_narrow 4 (Option.none : Option FieldType) 3 := ⟨w_605, w_5, w_562, ⟨by decide, by decide⟩, by decide +kernel, by decide⟩
theorem s_RR_100 : g_S "RuleDiagram$RuleReader" 100 y_RR_readHighBits c_RR_readHighBits 6 (Option.some FieldType.boolean) 3 := ⟨w_606, w_3, w_609, ⟨by decide, by decide⟩, by decide +kernel, by decide⟩
theorem s_RR_44 : g_S "RuleDiagram$RuleReader" 44 y_Pi_place c_Pi_place 1 (Option.some FieldType.int) 0 := ⟨w_611, w_4, w_614, ⟨by decide, by decide⟩, by decide +kernel, by decide⟩
theorem s_RD_90 : g_S "RuleDiagram" 90 y_Tx_clear c_Tx_clear 1 (Option.none : Option FieldType) 0 := ⟨w_615, w_2, w_618, ⟨by decide, by decide⟩, by decide +kernel, by decide⟩
theorem s_RD_93 : g_S "RuleDiagram" 93 y_RL_room c_RL_room 1 (Option.some FieldType.int) 0 := ⟨w_619, w_6, w_622, ⟨by decide, by decide⟩, by decide +kernel, by decide⟩
theorem s_RD_96 : g_S "RuleDiagram" 96 y_RR_found c_RR_found 2 (Option.some (FieldType.object "RuleDiagram$Rule")) 1 := ⟨w_623, w_3, w_626, ⟨by decide, by decide⟩, by decide +kernel, by decide⟩
theorem s_RD_100 : g_S "RuleDiagram" 100 y_RL_append c_RL_append 2 (Option.none : Option FieldType) 1 := ⟨w_627, w_6, w_630, ⟨by decide, by decide⟩, by decide +kernel, by decide⟩
theorem s_RL_22 : g_S "RuleDiagram$RuleList" 22 y_Ru_copyFrom c_Ru_copyFrom 3 (Option.none : Option FieldType) 1 := ⟨w_631, w_5, w_634, ⟨by decide, by decide⟩, by decide +kernel, by decide⟩
theorem s_La_22 : g_S "RuleDiagramLaw" 22 y_RD_remove c_RD_remove 3 (Option.none : Option FieldType) 2 := ⟨w_638, w_1, w_641, ⟨by decide, by decide⟩, by decide +kernel, by decide⟩
theorem s_RD_103 : g_S "RuleDiagram" 103 y_RD_requireRule c_RD_requireRule 3 (Option.none : Option FieldType) 2 := ⟨w_642, w_1, w_645, ⟨by decide, by decide⟩, by decide +kernel, by decide⟩
theorem s_RD_190 : g_S "RuleDiagram" 190 y_RL_has c_RL_has 2 (Option.some FieldType.boolean) 1 := ⟨w_646, w_6, w_649, ⟨by decide, by decide⟩, by decide +kernel, by decide⟩
theorem s_RD_107 : g_S "RuleDiagram" 107 y_RL_takeOut c_RL_takeOut 3 (Option.none : Option FieldType) 1 := ⟨w_651, w_6, w_654, ⟨by decide, by decide⟩, by decide +kernel, by decide⟩
theorem s_RL_26 : g_S "RuleDiagram$RuleList" 26 y_RL_exchange c_RL_exchange 3 (Option.none : Option FieldType) 1 := ⟨w_655, w_6, w_658, ⟨by decide, by decide⟩, by decide +kernel, by decide⟩
theorem s_La_26 : g_S "RuleDiagramLaw" 26 y_RD_swap c_RD_swap 3 (Option.none : Option FieldType) 2 := ⟨w_662, w_1, w_665, ⟨by decide, by decide⟩, by decide +kernel, by decide⟩
theorem s_RD_110 : g_S "RuleDiagram" 110 y_RL_exchange c_RL_exchange 3 (Option.none : Option FieldType) 1 := ⟨w_666, w_6, w_658, ⟨by decide, by decide⟩, by decide +kernel, by decide⟩
theorem s_La_29 : g_S "RuleDiagramLaw" 29 y_RD_rules c_RD_rules 2 (Option.some FieldType.int) 1 := ⟨w_670, w_1, w_673, ⟨by decide, by decide⟩, by decide +kernel, by decide⟩
theorem s_RD_113 : g_S "RuleDiagram" 113 y_RL_size c_RL_size 1 (Option.some FieldType.int) 0 := ⟨w_674, w_6, w_234, ⟨by decide, by decide⟩, by decide +kernel, by decide⟩
theorem s_La_32 : g_S "RuleDiagramLaw" 32 y_RD_rule c_RD_rule 4 (Option.some FieldType.int) 3 := ⟨w_678, w_1, w_681, ⟨by decide, by decide⟩, by decide +kernel, by decide⟩
theorem s_RD_118 : g_S "RuleDiagram" 118 y_RL_at c_RL_at 2 (Option.some (FieldType.object "RuleDiagram$Rule")) 1 := ⟨w_683, w_6, w_238, ⟨by decide, by decide⟩, by decide +kernel, by decide⟩
theorem s_RD_121 : g_S "RuleDiagram" 121 y_Ru_number c_Ru_number 3 (Option.some FieldType.int) 1 := ⟨w_684, w_5, w_687, ⟨by decide, by decide⟩, by decide +kernel, by decide⟩
theorem s_La_36 : g_S "RuleDiagramLaw" 36 y_RD_verdict c_RD_verdict 6 (Option.some FieldType.int) 5 := ⟨w_691, w_1, w_694, ⟨by decide, by decide⟩, by decide +kernel, by decide⟩
theorem s_RD_127 : g_S "RuleDiagram" 127 y_RD_packetOf c_RD_packetOf 4 (Option.some FieldType.int) 4 := ⟨w_695, w_1, w_697, ⟨by decide, by decide⟩, by decide +kernel, by decide⟩
theorem s_RD_200 : g_S "RuleDiagram" 200 y_RD_requireValue c_RD_requireValue 2 (Option.none : Option FieldType) 2 := ⟨w_698, w_1, w_700, ⟨by decide, by decide⟩, by decide +kernel, by decide⟩
theorem s_RD_195 : g_S "RuleDiagram" 195 y_RD_greatestOf c_RD_greatestOf 1 (Option.some FieldType.int) 1 := ⟨w_701, w_1, w_249, ⟨by decide, by decide⟩, by decide +kernel, by decide⟩
theorem s_RD_203 : g_S "RuleDiagram" 203 y_RD_joined c_RD_joined 4 (Option.some FieldType.int) 4 := ⟨w_703, w_1, w_705, ⟨by decide, by decide⟩, by decide +kernel, by decide⟩
theorem s_RD_131 : g_S "RuleDiagram" 131 y_RL_judge c_RL_judge 3 (Option.some FieldType.int) 1 := ⟨w_708, w_6, w_711, ⟨by decide, by decide⟩, by decide +kernel, by decide⟩
theorem s_RL_34 : g_S "RuleDiagram$RuleList" 34 y_RL_firstFor c_RL_firstFor 3 (Option.some FieldType.int) 1 := ⟨w_712, w_6, w_715, ⟨by decide, by decide⟩, by decide +kernel, by decide⟩
theorem s_RL_30 : g_S "RuleDiagram$RuleList" 30 y_Ru_matches c_Ru_matches 3 (Option.some FieldType.boolean) 1 := ⟨w_716, w_5, w_719, ⟨by decide, by decide⟩, by decide +kernel, by decide⟩
theorem s_Ru_34 : g_S "RuleDiagram$Rule" 34 y_Ru_matchesValue c_Ru_matchesValue 3 (Option.some FieldType.boolean) 2 := ⟨w_723, w_5, w_270, ⟨by decide, by decide⟩, by decide +kernel, by decide⟩
theorem s_La_40 : g_S "RuleDiagramLaw" 40 y_RD_first c_RD_first 6 (Option.some FieldType.int) 5 := ⟨w_727, w_1, w_730, ⟨by decide, by decide⟩, by decide +kernel, by decide⟩
theorem s_RD_134 : g_S "RuleDiagram" 134 y_RL_firstFor c_RL_firstFor 3 (Option.some FieldType.int) 1 := ⟨w_731, w_6, w_715, ⟨by decide, by decide⟩, by decide +kernel, by decide⟩
theorem s_La_43 : g_S "RuleDiagramLaw" 43 y_RD_count c_RD_count 3 (Option.some FieldType.int) 2 := ⟨w_735, w_1, w_738, ⟨by decide, by decide⟩, by decide +kernel, by decide⟩
theorem s_RD_139 : g_S "RuleDiagram" 139 y_Di_compile c_Di_compile 2 (Option.none : Option FieldType) 0 := ⟨w_740, w_7, w_743, ⟨by decide, by decide⟩, by decide +kernel, by decide⟩
theorem s_Di_36 : g_S "RuleDiagram$Diagram" 36 y_RL_size c_RL_size 1 (Option.some FieldType.int) 0 := ⟨w_744, w_6, w_234, ⟨by decide, by decide⟩, by decide +kernel, by decide⟩
theorem s_Di_42 : g_S "RuleDiagram$Diagram" 42 y_Cu_clear c_Cu_clear 1 (Option.none : Option FieldType) 0 := ⟨w_745, w_8, w_223, ⟨by decide, by decide⟩, by decide +kernel, by decide⟩
theorem s_Di_45 : g_S "RuleDiagram$Diagram" 45 y_Cu_cutBy c_Cu_cutBy 3 (Option.none : Option FieldType) 1 := ⟨w_746, w_8, w_230, ⟨by decide, by decide⟩, by decide +kernel, by decide⟩
theorem s_Di_49 : g_S "RuleDiagram$Diagram" 49 y_Cu_mark c_Cu_mark 4 (Option.none : Option FieldType) 2 := ⟨w_747, w_8, w_262, ⟨by decide, by decide⟩, by decide +kernel, by decide⟩
theorem s_Di_53 : g_S "RuleDiagram$Diagram" 53 y_Di_countWays c_Di_countWays 3 (Option.none : Option FieldType) 0 := ⟨w_748, w_7, w_751, ⟨by decide, by decide⟩, by decide +kernel, by decide⟩
theorem s_Di_77 : g_S "RuleDiagram$Diagram" 77 y_Arr_fill c_Arr_fill 4 (Option.none : Option FieldType) 2 := ⟨w_752, w_23, w_226, ⟨by decide, by decide⟩, by decide +kernel, by decide⟩
theorem s_Di_63 : g_S "RuleDiagram$Diagram" 63 y_Di_isTable c_Di_isTable 3 (Option.some FieldType.boolean) 2 := ⟨w_753, w_7, w_756, ⟨by decide, by decide⟩, by decide +kernel, by decide⟩
theorem s_Di_83 : g_S "RuleDiagram$Diagram" 83 y_Di_countWaysBehind c_Di_countWaysBehind 5 (Option.none : Option FieldType) 2 := ⟨w_757, w_7, w_760, ⟨by decide, by decide⟩, by decide +kernel, by decide⟩
theorem s_Di_86 : g_S "RuleDiagram$Diagram" 86 y_Cu_size c_Cu_size 1 (Option.some FieldType.int) 0 := ⟨w_761, w_8, w_306, ⟨by decide, by decide⟩, by decide +kernel, by decide⟩
theorem s_Di_87 : g_S "RuleDiagram$Diagram" 87 y_Cu_set c_Cu_set 2 (Option.some FieldType.int) 1 := ⟨w_762, w_8, w_310, ⟨by decide, by decide⟩, by decide +kernel, by decide⟩
theorem s_Di_90 : g_S "RuleDiagram$Diagram" 90 y_Cu_width c_Cu_width 3 (Option.some FieldType.int) 1 := ⟨w_763, w_8, w_314, ⟨by decide, by decide⟩, by decide +kernel, by decide⟩
theorem s_RD_142 : g_S "RuleDiagram" 142 y_Di_packetsWith c_Di_packetsWith 4 (Option.some FieldType.int) 1 := ⟨w_764, w_7, w_767, ⟨by decide, by decide⟩, by decide +kernel, by decide⟩
theorem s_Di_56 : g_S "RuleDiagram$Diagram" 56 y_RL_judgeSet c_RL_judgeSet 2 (Option.some FieldType.int) 1 := ⟨w_768, w_6, w_289, ⟨by decide, by decide⟩, by decide +kernel, by decide⟩
theorem s_La_47 : g_S "RuleDiagramLaw" 47 y_RD_nodes c_RD_nodes 3 (Option.some FieldType.int) 2 := ⟨w_772, w_1, w_775, ⟨by decide, by decide⟩, by decide +kernel, by decide⟩
theorem s_RD_145 : g_S "RuleDiagram" 145 y_RD_requireField c_RD_requireField 1 (Option.none : Option FieldType) 1 := ⟨w_776, w_1, w_778, ⟨by decide, by decide⟩, by decide +kernel, by decide⟩
theorem s_RD_148 : g_S "RuleDiagram" 148 y_Di_uniteTables c_Di_uniteTables 3 (Option.none : Option FieldType) 0 := ⟨w_780, w_7, w_783, ⟨by decide, by decide⟩, by decide +kernel, by decide⟩
theorem s_Di_67 : g_S "RuleDiagram$Diagram" 67 y_Di_firstLike c_Di_firstLike 4 (Option.some FieldType.int) 2 := ⟨w_784, w_7, w_787, ⟨by decide, by decide⟩, by decide +kernel, by decide⟩
theorem s_Di_93 : g_S "RuleDiagram$Diagram" 93 y_Di_areAlike c_Di_areAlike 5 (Option.some FieldType.boolean) 3 := ⟨w_788, w_7, w_791, ⟨by decide, by decide⟩, by decide +kernel, by decide⟩
theorem s_Di_97 : g_S "RuleDiagram$Diagram" 97 y_Di_restOf c_Di_restOf 4 (Option.some FieldType.int) 3 := ⟨w_792, w_7, w_795, ⟨by decide, by decide⟩, by decide +kernel, by decide⟩
theorem s_RD_151 : g_S "RuleDiagram" 151 y_Di_nodesOf c_Di_nodesOf 4 (Option.some FieldType.int) 1 := ⟨w_796, w_7, w_799, ⟨by decide, by decide⟩, by decide +kernel, by decide⟩
theorem s_Di_71 : g_S "RuleDiagram$Diagram" 71 y_Di_isNode c_Di_isNode 3 (Option.some FieldType.boolean) 2 := ⟨w_800, w_7, w_803, ⟨by decide, by decide⟩, by decide +kernel, by decide⟩
theorem s_Di_74 : g_S "RuleDiagram$Diagram" 74 y_Di_rowsOf c_Di_rowsOf 5 (Option.some FieldType.int) 2 := ⟨w_804, w_7, w_807, ⟨by decide, by decide⟩, by decide +kernel, by decide⟩
theorem s_La_50 : g_S "RuleDiagramLaw" 50 y_RD_edges c_RD_edges 4 (Option.some FieldType.int) 1 := ⟨w_811, w_1, w_814, ⟨by decide, by decide⟩, by decide +kernel, by decide⟩
theorem s_RD_154 : g_S "RuleDiagram" 154 y_Di_edgesOf c_Di_edgesOf 4 (Option.some FieldType.int) 1 := ⟨w_815, w_7, w_818, ⟨by decide, by decide⟩, by decide +kernel, by decide⟩
theorem s_La_53 : g_S "RuleDiagramLaw" 53 y_RD_witness c_RD_witness 3 (Option.some FieldType.int) 1 := ⟨w_822, w_1, w_825, ⟨by decide, by decide⟩, by decide +kernel, by decide⟩
theorem s_RD_161 : g_S "RuleDiagram" 161 y_Co_firstUnlike c_Co_firstUnlike 5 (Option.some FieldType.int) 0 := ⟨w_826, w_9, w_829, ⟨by decide, by decide⟩, by decide +kernel, by decide⟩
theorem s_Co_46 : g_S "RuleDiagram$Comparison" 46 y_Co_firstUnlikeRow c_Co_firstUnlikeRow 4 (Option.some FieldType.int) 2 := ⟨w_830, w_9, w_833, ⟨by decide, by decide⟩, by decide +kernel, by decide⟩
theorem s_Co_50 : g_S "RuleDiagram$Comparison" 50 y_Cu_start c_Cu_start 2 (Option.some FieldType.int) 1 := ⟨w_834, w_8, w_837, ⟨by decide, by decide⟩, by decide +kernel, by decide⟩
theorem s_RD_164 : g_S "RuleDiagram" 164 y_RD_valueOf c_RD_valueOf 2 (Option.some FieldType.int) 2 := ⟨w_839, w_1, w_722, ⟨by decide, by decide⟩, by decide +kernel, by decide⟩
theorem s_La_56 : g_S "RuleDiagramLaw" 56 y_RD_used c_RD_used 3 (Option.some FieldType.int) 2 := ⟨w_843, w_1, w_846, ⟨by decide, by decide⟩, by decide +kernel, by decide⟩
theorem s_RD_168 : g_S "RuleDiagram" 168 y_Di_packetsOf c_Di_packetsOf 4 (Option.some FieldType.int) 1 := ⟨w_847, w_7, w_850, ⟨by decide, by decide⟩, by decide +kernel, by decide⟩
theorem s_La_59 : g_S "RuleDiagramLaw" 59 y_RD_prune c_RD_prune 4 (Option.some FieldType.int) 1 := ⟨w_855, w_1, w_858, ⟨by decide, by decide⟩, by decide +kernel, by decide⟩
theorem s_La_62 : g_S "RuleDiagramLaw" 62 y_RD_pass c_RD_pass 9 (Option.some FieldType.int) 5 := ⟨w_862, w_1, w_865, ⟨by decide, by decide⟩, by decide +kernel, by decide⟩
theorem s_RD_171 : g_S "RuleDiagram" 171 y_Ga_connectionOf c_Ga_connectionOf 4 (Option.some FieldType.int) 1 := ⟨w_866, w_10, w_869, ⟨by decide, by decide⟩, by decide +kernel, by decide⟩
theorem s_RD_174 : g_S "RuleDiagram" 174 y_Ga_renew c_Ga_renew 3 (Option.none : Option FieldType) 1 := ⟨w_872, w_10, w_875, ⟨by decide, by decide⟩, by decide +kernel, by decide⟩
theorem s_Ga_27 : g_S "RuleDiagram$Gate" 27 y_Ga_close c_Ga_close 3 (Option.none : Option FieldType) 1 := ⟨w_876, w_10, w_879, ⟨by decide, by decide⟩, by decide +kernel, by decide⟩
theorem s_Ga_31 : g_S "RuleDiagram$Gate" 31 y_Ga_open c_Ga_open 2 (Option.none : Option FieldType) 1 := ⟨w_880, w_10, w_883, ⟨by decide, by decide⟩, by decide +kernel, by decide⟩
theorem s_RD_177 : g_S "RuleDiagram" 177 y_Ga_open c_Ga_open 2 (Option.none : Option FieldType) 1 := ⟨w_884, w_10, w_883, ⟨by decide, by decide⟩, by decide +kernel, by decide⟩
theorem s_La_65 : g_S "RuleDiagramLaw" 65 y_RD_connection c_RD_connection 3 (Option.some FieldType.int) 2 := ⟨w_888, w_1, w_891, ⟨by decide, by decide⟩, by decide +kernel, by decide⟩
theorem s_RD_180 : g_S "RuleDiagram" 180 y_Ga_has c_Ga_has 2 (Option.some FieldType.boolean) 1 := ⟨w_892, w_10, w_895, ⟨by decide, by decide⟩, by decide +kernel, by decide⟩
theorem s_RD_183 : g_S "RuleDiagram" 183 y_Ga_at c_Ga_at 2 (Option.some FieldType.int) 1 := ⟨w_896, w_10, w_899, ⟨by decide, by decide⟩, by decide +kernel, by decide⟩
theorem s_La_71 : g_S "RuleDiagramLaw" 71 y_Mo_init c_Mo_init 1 (Option.none : Option FieldType) 0 := ⟨w_902, w_11, w_904, ⟨by decide, by decide⟩, by decide +kernel, by decide⟩
theorem s_La_78 : g_S "RuleDiagramLaw" 78 y_Mo_thrown c_Mo_thrown 1 (Option.some FieldType.int) 0 := ⟨w_961, w_11, w_964, ⟨by decide, by decide⟩, by decide +kernel, by decide⟩
theorem s_La_77 : g_S "RuleDiagramLaw" 77 y_Mo_put c_Mo_put 6 (Option.some FieldType.int) 1 := ⟨w_965, w_11, w_968, ⟨by decide, by decide⟩, by decide +kernel, by decide⟩
theorem s_Mo_57 : g_S "RuleDiagramModel" 57 y_Mo_refuse c_Mo_refuse 3 (Option.some FieldType.boolean) 2 := ⟨w_969, w_11, w_972, ⟨by decide, by decide⟩, by decide +kernel, by decide⟩
theorem s_La_84 : g_S "RuleDiagramLaw" 84 y_Mo_read c_Mo_read 5 (Option.some FieldType.int) 1 := ⟨w_973, w_11, w_976, ⟨by decide, by decide⟩, by decide +kernel, by decide⟩
theorem s_Mo_112 : g_S "RuleDiagramModel" 112 y_Mo_in c_Mo_in 3 (Option.some FieldType.boolean) 3 := ⟨w_977, w_11, w_979, ⟨by decide, by decide⟩, by decide +kernel, by decide⟩
theorem s_Mo_78 : g_S "RuleDiagramModel" 78 y_Mo_blanks c_Mo_blanks 1 (Option.none : Option FieldType) 0 := ⟨w_980, w_11, w_983, ⟨by decide, by decide⟩, by decide +kernel, by decide⟩
theorem s_Mo_64 : g_S "RuleDiagramModel" 64 y_Mo_sign c_Mo_sign 2 (Option.some FieldType.int) 1 := ⟨w_984, w_11, w_987, ⟨by decide, by decide⟩, by decide +kernel, by decide⟩
theorem s_Mo_116 : g_S "RuleDiagramModel" 116 y_Mo_readRule c_Mo_readRule 7 (Option.none : Option FieldType) 0 := ⟨w_988, w_11, w_991, ⟨by decide, by decide⟩, by decide +kernel, by decide⟩
theorem s_Mo_88 : g_S "RuleDiagramModel" 88 y_Mo_word c_Mo_word 3 (Option.some FieldType.int) 0 := ⟨w_992, w_11, w_995, ⟨by decide, by decide⟩, by decide +kernel, by decide⟩
theorem s_Mo_70 : g_S "RuleDiagramModel" 70 y_Mo_isLetter c_Mo_isLetter 1 (Option.some FieldType.boolean) 1 := ⟨w_996, w_11, w_998, ⟨by decide, by decide⟩, by decide +kernel, by decide⟩
theorem s_Mo_99 : g_S "RuleDiagramModel" 99 y_Mo_verdictOf c_Mo_verdictOf 1 (Option.some FieldType.int) 1 := ⟨w_999, w_11, w_1001, ⟨by decide, by decide⟩, by decide +kernel, by decide⟩
theorem s_Mo_74 : g_S "RuleDiagramModel" 74 y_Mo_spell c_Mo_spell 6 (Option.some FieldType.int) 5 := ⟨w_1002, w_11, w_1004, ⟨by decide, by decide⟩, by decide +kernel, by decide⟩
theorem s_Mo_84 : g_S "RuleDiagramModel" 84 y_Mo_bad c_Mo_bad 2 (Option.none : Option FieldType) 1 := ⟨w_1005, w_11, w_1008, ⟨by decide, by decide⟩, by decide +kernel, by decide⟩
theorem s_Mo_92 : g_S "RuleDiagramModel" 92 y_Mo_most c_Mo_most 1 (Option.some FieldType.int) 1 := ⟨w_1009, w_11, w_1011, ⟨by decide, by decide⟩, by decide +kernel, by decide⟩
theorem s_Mo_50 : g_S "RuleDiagramModel" 50 y_Mo_bits c_Mo_bits 1 (Option.some FieldType.int) 1 := ⟨w_1012, w_11, w_1014, ⟨by decide, by decide⟩, by decide +kernel, by decide⟩
theorem s_Mo_105 : g_S "RuleDiagramModel" 105 y_Mo_fieldOf c_Mo_fieldOf 1 (Option.some FieldType.int) 1 := ⟨w_1015, w_11, w_1017, ⟨by decide, by decide⟩, by decide +kernel, by decide⟩
theorem s_Mo_108 : g_S "RuleDiagramModel" 108 y_Mo_values c_Mo_values 8 (Option.none : Option FieldType) 2 := ⟨w_1018, w_11, w_1021, ⟨by decide, by decide⟩, by decide +kernel, by decide⟩
theorem s_Mo_95 : g_S "RuleDiagramModel" 95 y_Mo_number c_Mo_number 5 (Option.some FieldType.int) 2 := ⟨w_1022, w_11, w_1025, ⟨by decide, by decide⟩, by decide +kernel, by decide⟩
theorem s_Mo_81 : g_S "RuleDiagramModel" 81 y_Mo_isDigit c_Mo_isDigit 1 (Option.some FieldType.boolean) 1 := ⟨w_1026, w_11, w_1028, ⟨by decide, by decide⟩, by decide +kernel, by decide⟩
theorem s_La_88 : g_S "RuleDiagramLaw" 88 y_Mo_remove c_Mo_remove 3 (Option.none : Option FieldType) 2 := ⟨w_1029, w_11, w_1032, ⟨by decide, by decide⟩, by decide +kernel, by decide⟩
theorem s_Mo_123 : g_S "RuleDiagramModel" 123 y_Mo_noRule c_Mo_noRule 3 (Option.some FieldType.boolean) 2 := ⟨w_1033, w_11, w_1036, ⟨by decide, by decide⟩, by decide +kernel, by decide⟩
theorem s_Mo_127 : g_S "RuleDiagramModel" 127 y_Mo_drop c_Mo_drop 4 (Option.none : Option FieldType) 2 := ⟨w_1037, w_11, w_1040, ⟨by decide, by decide⟩, by decide +kernel, by decide⟩
theorem s_Mo_119 : g_S "RuleDiagramModel" 119 y_Mo_move c_Mo_move 7 (Option.none : Option FieldType) 3 := ⟨w_1041, w_11, w_1044, ⟨by decide, by decide⟩, by decide +kernel, by decide⟩
theorem s_La_91 : g_S "RuleDiagramLaw" 91 y_Mo_swap c_Mo_swap 9 (Option.none : Option FieldType) 2 := ⟨w_1045, w_11, w_1048, ⟨by decide, by decide⟩, by decide +kernel, by decide⟩
theorem s_La_94 : g_S "RuleDiagramLaw" 94 y_Mo_rules c_Mo_rules 2 (Option.some FieldType.int) 1 := ⟨w_1049, w_11, w_1052, ⟨by decide, by decide⟩, by decide +kernel, by decide⟩
theorem s_La_98 : g_S "RuleDiagramLaw" 98 y_Mo_rule c_Mo_rule 6 (Option.some FieldType.int) 3 := ⟨w_1053, w_11, w_1056, ⟨by decide, by decide⟩, by decide +kernel, by decide⟩
theorem s_La_102 : g_S "RuleDiagramLaw" 102 y_Mo_verdict c_Mo_verdict 6 (Option.some FieldType.int) 5 := ⟨w_1057, w_11, w_1060, ⟨by decide, by decide⟩, by decide +kernel, by decide⟩
theorem s_Mo_137 : g_S "RuleDiagramModel" 137 y_Mo_noPacket c_Mo_noPacket 5 (Option.some FieldType.boolean) 4 := ⟨w_1061, w_11, w_1064, ⟨by decide, by decide⟩, by decide +kernel, by decide⟩
theorem s_Mo_141 : g_S "RuleDiagramModel" 141 y_Mo_verdictBy c_Mo_verdictBy 7 (Option.some FieldType.int) 5 := ⟨w_1065, w_11, w_1068, ⟨by decide, by decide⟩, by decide +kernel, by decide⟩
theorem s_Mo_134 : g_S "RuleDiagramModel" 134 y_Mo_firstOf c_Mo_firstOf 7 (Option.some FieldType.int) 5 := ⟨w_1069, w_11, w_1072, ⟨by decide, by decide⟩, by decide +kernel, by decide⟩
theorem s_Mo_130 : g_S "RuleDiagramModel" 130 y_Mo_matches c_Mo_matches 7 (Option.some FieldType.boolean) 5 := ⟨w_1073, w_11, w_1076, ⟨by decide, by decide⟩, by decide +kernel, by decide⟩
theorem s_La_105 : g_S "RuleDiagramLaw" 105 y_Mo_first c_Mo_first 6 (Option.some FieldType.int) 5 := ⟨w_1077, w_11, w_1080, ⟨by decide, by decide⟩, by decide +kernel, by decide⟩
theorem s_La_109 : g_S "RuleDiagramLaw" 109 y_Mo_count c_Mo_count 3 (Option.some FieldType.int) 2 := ⟨w_1081, w_11, w_1084, ⟨by decide, by decide⟩, by decide +kernel, by decide⟩
theorem s_Mo_156 : g_S "RuleDiagramModel" 156 y_Mo_sum c_Mo_sum 10 (Option.some FieldType.int) 3 := ⟨w_1085, w_11, w_1088, ⟨by decide, by decide⟩, by decide +kernel, by decide⟩
theorem s_Mo_150 : g_S "RuleDiagramModel" 150 y_Mo_cutBy c_Mo_cutBy 6 (Option.none : Option FieldType) 2 := ⟨w_1089, w_11, w_1092, ⟨by decide, by decide⟩, by decide +kernel, by decide⟩
theorem s_Mo_147 : g_S "RuleDiagramModel" 147 y_Mo_addCut c_Mo_addCut 5 (Option.none : Option FieldType) 2 := ⟨w_1093, w_11, w_1096, ⟨by decide, by decide⟩, by decide +kernel, by decide⟩
theorem s_Mo_144 : g_S "RuleDiagramModel" 144 y_Mo_cut c_Mo_cut 3 (Option.some FieldType.int) 2 := ⟨w_1097, w_11, w_1100, ⟨by decide, by decide⟩, by decide +kernel, by decide⟩
theorem s_Mo_153 : g_S "RuleDiagramModel" 153 y_Mo_width c_Mo_width 4 (Option.some FieldType.int) 2 := ⟨w_1101, w_11, w_1104, ⟨by decide, by decide⟩, by decide +kernel, by decide⟩
theorem s_La_125 : g_S "RuleDiagramLaw" 125 y_Mo_used c_Mo_used 3 (Option.some FieldType.int) 2 := ⟨w_1105, w_11, w_1108, ⟨by decide, by decide⟩, by decide +kernel, by decide⟩
theorem s_La_128 : g_S "RuleDiagramLaw" 128 y_Mo_prune c_Mo_prune 5 (Option.some FieldType.int) 1 := ⟨w_1109, w_11, w_1112, ⟨by decide, by decide⟩, by decide +kernel, by decide⟩
theorem s_La_119 : g_S "RuleDiagramLaw" 119 y_Mo_differing c_Mo_differing 1 (Option.some FieldType.int) 0 := ⟨w_1113, w_11, w_1116, ⟨by decide, by decide⟩, by decide +kernel, by decide⟩
theorem s_Mo_160 : g_S "RuleDiagramModel" 160 y_Mo_differ c_Mo_differ 10 (Option.some FieldType.int) 1 := ⟨w_1117, w_11, w_1120, ⟨by decide, by decide⟩, by decide +kernel, by decide⟩
theorem s_La_122 : g_S "RuleDiagramLaw" 122 y_Mo_witness c_Mo_witness 2 (Option.some FieldType.int) 1 := ⟨w_1121, w_11, w_1124, ⟨by decide, by decide⟩, by decide +kernel, by decide⟩
theorem s_La_112 : g_S "RuleDiagramLaw" 112 y_Mo_nodes c_Mo_nodes 3 (Option.some FieldType.int) 2 := ⟨w_1125, w_11, w_1128, ⟨by decide, by decide⟩, by decide +kernel, by decide⟩
theorem s_Mo_178 : g_S "RuleDiagramModel" 178 y_Mo_fill c_Mo_fill 6 (Option.none : Option FieldType) 1 := ⟨w_1129, w_11, w_1132, ⟨by decide, by decide⟩, by decide +kernel, by decide⟩
theorem s_Mo_163 : g_S "RuleDiagramModel" 163 y_Mo_room c_Mo_room 1 (Option.some FieldType.int) 1 := ⟨w_1133, w_11, w_1135, ⟨by decide, by decide⟩, by decide +kernel, by decide⟩
theorem s_Mo_181 : g_S "RuleDiagramModel" 181 y_Mo_counted c_Mo_counted 9 (Option.some FieldType.int) 2 := ⟨w_1136, w_11, w_1139, ⟨by decide, by decide⟩, by decide +kernel, by decide⟩
theorem s_Mo_166 : g_S "RuleDiagramModel" 166 y_Mo_wide c_Mo_wide 1 (Option.some FieldType.int) 1 := ⟨w_1140, w_11, w_1142, ⟨by decide, by decide⟩, by decide +kernel, by decide⟩
theorem s_Mo_172 : g_S "RuleDiagramModel" 172 y_Mo_rows c_Mo_rows 5 (Option.some FieldType.int) 2 := ⟨w_1143, w_11, w_1146, ⟨by decide, by decide⟩, by decide +kernel, by decide⟩
theorem s_Mo_169 : g_S "RuleDiagramModel" 169 y_Mo_same c_Mo_same 5 (Option.some FieldType.boolean) 3 := ⟨w_1147, w_11, w_1150, ⟨by decide, by decide⟩, by decide +kernel, by decide⟩
theorem s_Mo_175 : g_S "RuleDiagramModel" 175 y_Mo_isReal c_Mo_isReal 2 (Option.some FieldType.boolean) 1 := ⟨w_1151, w_11, w_1154, ⟨by decide, by decide⟩, by decide +kernel, by decide⟩
theorem s_La_115 : g_S "RuleDiagramLaw" 115 y_Mo_edges c_Mo_edges 2 (Option.some FieldType.int) 1 := ⟨w_1155, w_11, w_1158, ⟨by decide, by decide⟩, by decide +kernel, by decide⟩
theorem s_La_131 : g_S "RuleDiagramLaw" 131 y_Mo_pass c_Mo_pass 9 (Option.some FieldType.int) 5 := ⟨w_1159, w_11, w_1162, ⟨by decide, by decide⟩, by decide +kernel, by decide⟩
theorem s_Mo_188 : g_S "RuleDiagramModel" 188 y_Mo_isLink c_Mo_isLink 6 (Option.some FieldType.boolean) 5 := ⟨w_1163, w_11, w_1166, ⟨by decide, by decide⟩, by decide +kernel, by decide⟩
theorem s_Mo_191 : g_S "RuleDiagramModel" 191 y_Mo_unlink c_Mo_unlink 3 (Option.none : Option FieldType) 1 := ⟨w_1167, w_11, w_1170, ⟨by decide, by decide⟩, by decide +kernel, by decide⟩
theorem s_Mo_194 : g_S "RuleDiagramModel" 194 y_Mo_link c_Mo_link 5 (Option.none : Option FieldType) 4 := ⟨w_1171, w_11, w_1174, ⟨by decide, by decide⟩, by decide +kernel, by decide⟩
theorem s_La_134 : g_S "RuleDiagramLaw" 134 y_Mo_connection c_Mo_connection 3 (Option.some FieldType.int) 2 := ⟨w_1175, w_11, w_1178, ⟨by decide, by decide⟩, by decide +kernel, by decide⟩
theorem sv_RD_init : y_RD_init.name = "<init>" ∧ Cond.instanceMethod y_RD_init ∈ g_WS := ⟨rfl, w_29⟩
theorem sv_Obj_init : y_Obj_init.name = "<init>" ∧ Cond.instanceMethod y_Obj_init ∈ g_WS := ⟨rfl, w_32⟩
theorem sv_Tx_init : y_Tx_init.name = "<init>" ∧ Cond.instanceMethod y_Tx_init ∈ g_WS := ⟨rfl, w_37⟩
theorem sv_RR_init : y_RR_init.name = "<init>" ∧ Cond.instanceMethod y_RR_init ∈ g_WS := ⟨rfl, w_51⟩
theorem sv_Pi_init : y_Pi_init.name = "<init>" ∧ Cond.instanceMethod y_Pi_init ∈ g_WS := ⟨rfl, w_57⟩
theorem sv_Ru_init : y_Ru_init.name = "<init>" ∧ Cond.instanceMethod y_Ru_init ∈ g_WS := ⟨rfl, w_77⟩
theorem sv_RL_init : y_RL_init.name = "<init>" ∧ Cond.instanceMethod y_RL_init ∈ g_WS := ⟨rfl, w_107⟩
theorem sv_Di_init : y_Di_init.name = "<init>" ∧ Cond.instanceMethod y_Di_init ∈ g_WS := ⟨rfl, w_121⟩
theorem sv_Cu_init : y_Cu_init.name = "<init>" ∧ Cond.instanceMethod y_Cu_init ∈ g_WS := ⟨rfl, w_128⟩
theorem sv_Co_init : y_Co_init.name = "<init>" ∧ Cond.instanceMethod y_Co_init ∈ g_WS := ⟨rfl, w_165⟩
theorem sv_Ga_init : y_Ga_init.name = "<init>" ∧ Cond.instanceMethod y_Ga_init ∈ g_WS := ⟨rfl, w_183⟩
theorem sv_RD_differing : Cond.instanceMethod y_RD_differing ∈ g_WS ∧ Cond.selects y_RD_differing.cls y_RD_differing y_RD_differing ∈ g_WS := ⟨w_213, w_214⟩
theorem sv_Co_compile : Cond.instanceMethod y_Co_compile ∈ g_WS ∧ Cond.selects y_Co_compile.cls y_Co_compile y_Co_compile ∈ g_WS := ⟨w_217, w_218⟩
theorem sv_Cu_clear : Cond.instanceMethod y_Cu_clear ∈ g_WS ∧ Cond.selects y_Cu_clear.cls y_Cu_clear y_Cu_clear ∈ g_WS := ⟨w_221, w_222⟩
theorem sv_Arr_fill : Cond.static y_Arr_fill ∈ g_WS := w_225
theorem sv_Cu_cutBy : Cond.instanceMethod y_Cu_cutBy ∈ g_WS ∧ Cond.selects y_Cu_cutBy.cls y_Cu_cutBy y_Cu_cutBy ∈ g_WS := ⟨w_228, w_229⟩
theorem sv_RL_size : Cond.instanceMethod y_RL_size ∈ g_WS ∧ Cond.selects y_RL_size.cls y_RL_size y_RL_size ∈ g_WS := ⟨w_232, w_233⟩
theorem sv_RL_at : Cond.instanceMethod y_RL_at ∈ g_WS ∧ Cond.selects y_RL_at.cls y_RL_at y_RL_at ∈ g_WS := ⟨w_236, w_237⟩
theorem sv_Ru_leastOf : Cond.instanceMethod y_Ru_leastOf ∈ g_WS ∧ Cond.selects y_Ru_leastOf.cls y_Ru_leastOf y_Ru_leastOf ∈ g_WS := ⟨w_240, w_241⟩
theorem sv_Cu_startRow : Cond.instanceMethod y_Cu_startRow ∈ g_WS ∧ Cond.selects y_Cu_startRow.cls y_Cu_startRow y_Cu_startRow ∈ g_WS := ⟨w_245, g_memP 0 (by decide +kernel) (by decide +kernel)⟩
theorem sv_RD_greatestOf : Cond.static y_RD_greatestOf ∈ g_WS := w_248
theorem sv_Ru_behindGreatestOf : Cond.instanceMethod y_Ru_behindGreatestOf ∈ g_WS ∧ Cond.selects y_Ru_behindGreatestOf.cls y_Ru_behindGreatestOf y_Ru_behindGreatestOf ∈ g_WS := ⟨w_256, w_257⟩
theorem sv_Cu_mark : Cond.instanceMethod y_Cu_mark ∈ g_WS ∧ Cond.selects y_Cu_mark.cls y_Cu_mark y_Cu_mark ∈ g_WS := ⟨w_260, w_261⟩
theorem sv_RL_agreeing : Cond.instanceMethod y_RL_agreeing ∈ g_WS ∧ Cond.selects y_RL_agreeing.cls y_RL_agreeing y_RL_agreeing ∈ g_WS := ⟨w_264, w_265⟩
theorem sv_Ru_matchesValue : Cond.instanceMethod y_Ru_matchesValue ∈ g_WS ∧ Cond.selects y_Ru_matchesValue.cls y_Ru_matchesValue y_Ru_matchesValue ∈ g_WS := ⟨w_268, w_269⟩
theorem sv_Co_unlikePackets : Cond.instanceMethod y_Co_unlikePackets ∈ g_WS ∧ Cond.selects y_Co_unlikePackets.cls y_Co_unlikePackets y_Co_unlikePackets ∈ g_WS := ⟨w_272, w_273⟩
theorem sv_Co_everyRule : Cond.static y_Co_everyRule ∈ g_WS := w_276
theorem sv_Co_unlikeFrom : Cond.static y_Co_unlikeFrom ∈ g_WS := w_280
theorem sv_Co_judgesUnlike : Cond.instanceMethod y_Co_judgesUnlike ∈ g_WS ∧ Cond.selects y_Co_judgesUnlike.cls y_Co_judgesUnlike y_Co_judgesUnlike ∈ g_WS := ⟨w_284, g_memP 1 (by decide +kernel) (by decide +kernel)⟩
theorem sv_RL_judgeSet : Cond.instanceMethod y_RL_judgeSet ∈ g_WS ∧ Cond.selects y_RL_judgeSet.cls y_RL_judgeSet y_RL_judgeSet ∈ g_WS := ⟨w_287, w_288⟩
theorem sv_RD_leastIn : Cond.static y_RD_leastIn ∈ g_WS := w_291
theorem sv_Int_bitCount : Cond.static y_Int_bitCount ∈ g_WS := w_294
theorem sv_Ru_judgement : Cond.instanceMethod y_Ru_judgement ∈ g_WS ∧ Cond.selects y_Ru_judgement.cls y_Ru_judgement y_Ru_judgement ∈ g_WS := ⟨w_300, w_301⟩
theorem sv_Cu_size : Cond.instanceMethod y_Cu_size ∈ g_WS ∧ Cond.selects y_Cu_size.cls y_Cu_size y_Cu_size ∈ g_WS := ⟨w_304, w_305⟩
theorem sv_Cu_set : Cond.instanceMethod y_Cu_set ∈ g_WS ∧ Cond.selects y_Cu_set.cls y_Cu_set y_Cu_set ∈ g_WS := ⟨w_308, w_309⟩
theorem sv_Cu_width : Cond.instanceMethod y_Cu_width ∈ g_WS ∧ Cond.selects y_Cu_width.cls y_Cu_width y_Cu_width ∈ g_WS := ⟨w_312, w_313⟩
theorem sv_La_put : Cond.static y_La_put ∈ g_WS := w_316
theorem sv_RD_put : Cond.instanceMethod y_RD_put ∈ g_WS ∧ Cond.selects y_RD_put.cls y_RD_put y_RD_put ∈ g_WS := ⟨w_321, w_322⟩
theorem sv_Tx_areSigns : Cond.static y_Tx_areSigns ∈ g_WS := w_325
theorem sv_Thr_init1 : y_Thr_init1.name = "<init>" ∧ Cond.instanceMethod y_Thr_init1 ∈ g_WS := ⟨rfl, w_351⟩
theorem sv_Iae_init : y_Iae_init.name = "<init>" ∧ Cond.instanceMethod y_Iae_init ∈ g_WS := ⟨rfl, w_371⟩
theorem sv_Rte_init : y_Rte_init.name = "<init>" ∧ Cond.instanceMethod y_Rte_init ∈ g_WS := ⟨rfl, w_374⟩
theorem sv_Exc_init : y_Exc_init.name = "<init>" ∧ Cond.instanceMethod y_Exc_init ∈ g_WS := ⟨rfl, w_377⟩
theorem sv_Thr_init2 : y_Thr_init2.name = "<init>" ∧ Cond.instanceMethod y_Thr_init2 ∈ g_WS := ⟨rfl, w_380⟩
theorem sv_Tx_hasRoomFor : Cond.instanceMethod y_Tx_hasRoomFor ∈ g_WS ∧ Cond.selects y_Tx_hasRoomFor.cls y_Tx_hasRoomFor y_Tx_hasRoomFor ∈ g_WS := ⟨w_397, w_398⟩
theorem sv_Tx_signOf : Cond.static y_Tx_signOf ∈ g_WS := w_401
theorem sv_Uoe_init : y_Uoe_init.name = "<init>" ∧ Cond.instanceMethod y_Uoe_init ∈ g_WS := ⟨rfl, w_414⟩
theorem sv_Tx_append : Cond.instanceMethod y_Tx_append ∈ g_WS ∧ Cond.selects y_Tx_append.cls y_Tx_append y_Tx_append ∈ g_WS := ⟨w_420, w_421⟩
theorem sv_Tx_length : Cond.instanceMethod y_Tx_length ∈ g_WS ∧ Cond.selects y_Tx_length.cls y_Tx_length y_Tx_length ∈ g_WS := ⟨w_424, w_425⟩
theorem sv_La_read : Cond.static y_La_read ∈ g_WS := w_428
theorem sv_RD_read : Cond.instanceMethod y_RD_read ∈ g_WS ∧ Cond.selects y_RD_read.cls y_RD_read y_RD_read ∈ g_WS := ⟨w_432, w_433⟩
theorem sv_RD_requireList : Cond.instanceMethod y_RD_requireList ∈ g_WS ∧ Cond.selects y_RD_requireList.cls y_RD_requireList y_RD_requireList ∈ g_WS := ⟨w_437, g_memP 3 (by decide +kernel) (by decide +kernel)⟩
theorem sv_Ioe_init : y_Ioe_init.name = "<init>" ∧ Cond.instanceMethod y_Ioe_init ∈ g_WS := ⟨rfl, w_450⟩
theorem sv_RR_readText : Cond.instanceMethod y_RR_readText ∈ g_WS ∧ Cond.selects y_RR_readText.cls y_RR_readText y_RR_readText ∈ g_WS := ⟨w_456, w_457⟩
theorem sv_Pi_restart : Cond.instanceMethod y_Pi_restart ∈ g_WS ∧ Cond.selects y_Pi_restart.cls y_Pi_restart y_Pi_restart ∈ g_WS := ⟨w_460, w_461⟩
theorem sv_Pi_step : Cond.instanceMethod y_Pi_step ∈ g_WS ∧ Cond.selects y_Pi_step.cls y_Pi_step y_Pi_step ∈ g_WS := ⟨w_464, w_465⟩
theorem sv_Tx_behind : Cond.instanceMethod y_Tx_behind ∈ g_WS ∧ Cond.selects y_Tx_behind.cls y_Tx_behind y_Tx_behind ∈ g_WS := ⟨w_468, w_469⟩
theorem sv_Tx_kindAt : Cond.instanceMethod y_Tx_kindAt ∈ g_WS ∧ Cond.selects y_Tx_kindAt.cls y_Tx_kindAt y_Tx_kindAt ∈ g_WS := ⟨w_472, w_473⟩
theorem sv_Pi_isEnd : Cond.instanceMethod y_Pi_isEnd ∈ g_WS ∧ Cond.selects y_Pi_isEnd.cls y_Pi_isEnd y_Pi_isEnd ∈ g_WS := ⟨w_477, w_478⟩
theorem sv_Mat_min : Cond.static y_Mat_min ∈ g_WS := w_481
theorem sv_RR_readRule : Cond.instanceMethod y_RR_readRule ∈ g_WS ∧ Cond.selects y_RR_readRule.cls y_RR_readRule y_RR_readRule ∈ g_WS := ⟨w_485, g_memP 4 (by decide +kernel) (by decide +kernel)⟩
theorem sv_RR_verdictHere : Cond.instanceMethod y_RR_verdictHere ∈ g_WS ∧ Cond.selects y_RR_verdictHere.cls y_RR_verdictHere y_RR_verdictHere ∈ g_WS := ⟨w_489, g_memP 5 (by decide +kernel) (by decide +kernel)⟩
theorem sv_RR_verdictName : Cond.static y_RR_verdictName ∈ g_WS := w_492
theorem sv_Pi_isWord : Cond.instanceMethod y_Pi_isWord ∈ g_WS ∧ Cond.selects y_Pi_isWord.cls y_Pi_isWord y_Pi_isWord ∈ g_WS := ⟨w_498, w_499⟩
theorem sv_Str_length : Cond.instanceMethod y_Str_length ∈ g_WS ∧ Cond.selects y_Str_length.cls y_Str_length y_Str_length ∈ g_WS := ⟨w_502, w_503⟩
theorem sv_Str_coder : Cond.instanceMethod y_Str_coder ∈ g_WS ∧ Cond.selects y_Str_coder.cls y_Str_coder y_Str_coder ∈ g_WS := ⟨w_506, w_507⟩
theorem sv_Tx_at : Cond.instanceMethod y_Tx_at ∈ g_WS ∧ Cond.selects y_Tx_at.cls y_Tx_at y_Tx_at ∈ g_WS := ⟨w_512, w_513⟩
theorem sv_Str_charAt : Cond.instanceMethod y_Str_charAt ∈ g_WS ∧ Cond.selects y_Str_charAt.cls y_Str_charAt y_Str_charAt ∈ g_WS := ⟨w_516, w_517⟩
theorem sv_Str_isLatin1 : Cond.instanceMethod y_Str_isLatin1 ∈ g_WS ∧ Cond.selects y_Str_isLatin1.cls y_Str_isLatin1 y_Str_isLatin1 ∈ g_WS := ⟨w_520, w_521⟩
theorem sv_SLa_charAt : Cond.static y_SLa_charAt ∈ g_WS := w_524
theorem sv_Str_checkIndex : Cond.static y_Str_checkIndex ∈ g_WS := w_527
theorem sv_Pre_checkIndex : Cond.static y_Pre_checkIndex ∈ g_WS := w_532
theorem sv_SUt_charAt : Cond.static y_SUt_charAt ∈ g_WS := w_535
theorem sv_SUt_checkIndex : Cond.static y_SUt_checkIndex ∈ g_WS := w_538
theorem sv_SUt_length : Cond.static y_SUt_length ∈ g_WS := w_541
theorem sv_SUt_getChar : Cond.static y_SUt_getChar ∈ g_WS := w_545
theorem sv_Ru_start : Cond.instanceMethod y_Ru_start ∈ g_WS ∧ Cond.selects y_Ru_start.cls y_Ru_start y_Ru_start ∈ g_WS := ⟨w_555, w_556⟩
theorem sv_Ru_narrow : Cond.instanceMethod y_Ru_narrow ∈ g_WS ∧ Cond.selects y_Ru_narrow.cls y_Ru_narrow y_Ru_narrow ∈ g_WS := ⟨w_560, w_561⟩
theorem sv_Pi_isSign : Cond.instanceMethod y_Pi_isSign ∈ g_WS ∧ Cond.selects y_Pi_isSign.cls y_Pi_isSign y_Pi_isSign ∈ g_WS := ⟨w_564, w_565⟩
theorem sv_RR_readName : Cond.instanceMethod y_RR_readName ∈ g_WS ∧ Cond.selects y_RR_readName.cls y_RR_readName y_RR_readName ∈ g_WS := ⟨w_569, g_memP 6 (by decide +kernel) (by decide +kernel)⟩
theorem sv_RR_fieldHere : Cond.instanceMethod y_RR_fieldHere ∈ g_WS ∧ Cond.selects y_RR_fieldHere.cls y_RR_fieldHere y_RR_fieldHere ∈ g_WS := ⟨w_573, g_memP 7 (by decide +kernel) (by decide +kernel)⟩
theorem sv_RR_fieldName : Cond.static y_RR_fieldName ∈ g_WS := w_576
theorem sv_RR_readRange : Cond.instanceMethod y_RR_readRange ∈ g_WS ∧ Cond.selects y_RR_readRange.cls y_RR_readRange y_RR_readRange ∈ g_WS := ⟨w_584, g_memP 8 (by decide +kernel) (by decide +kernel)⟩
theorem sv_Pi_isNumber : Cond.instanceMethod y_Pi_isNumber ∈ g_WS ∧ Cond.selects y_Pi_isNumber.cls y_Pi_isNumber y_Pi_isNumber ∈ g_WS := ⟨w_589, w_590⟩
theorem sv_Pi_number : Cond.instanceMethod y_Pi_number ∈ g_WS ∧ Cond.selects y_Pi_number.cls y_Pi_number y_Pi_number ∈ g_WS := ⟨w_593, w_594⟩
theorem sv_RR_skipSign : Cond.instanceMethod y_RR_skipSign ∈ g_WS ∧ Cond.selects y_RR_skipSign.cls y_RR_skipSign y_RR_skipSign ∈ g_WS := ⟨w_599, g_memP 9 (by decide +kernel) (by decide +kernel)⟩
theorem sv_RR_readGreatest : Cond.instanceMethod y_RR_readGreatest ∈ g_WS ∧ Cond.selects y_RR_readGreatest.cls y_RR_readGreatest y_RR_readGreatest ∈ g_WS := ⟨w_603, g_memP 10 (by decide +kernel) (by decide +kernel)⟩
theorem sv_RR_readHighBits : Cond.instanceMethod y_RR_readHighBits ∈ g_WS ∧ Cond.selects y_RR_readHighBits.cls y_RR_readHighBits y_RR_readHighBits ∈ g_WS := ⟨w_608, g_memP 11 (by decide +kernel) (by decide +kernel)⟩
theorem sv_Pi_place : Cond.instanceMethod y_Pi_place ∈ g_WS ∧ Cond.selects y_Pi_place.cls y_Pi_place y_Pi_place ∈ g_WS := ⟨w_612, w_613⟩
theorem sv_Tx_clear : Cond.instanceMethod y_Tx_clear ∈ g_WS ∧ Cond.selects y_Tx_clear.cls y_Tx_clear y_Tx_clear ∈ g_WS := ⟨w_616, w_617⟩
theorem sv_RL_room : Cond.instanceMethod y_RL_room ∈ g_WS ∧ Cond.selects y_RL_room.cls y_RL_room y_RL_room ∈ g_WS := ⟨w_620, w_621⟩
theorem sv_RR_found : Cond.instanceMethod y_RR_found ∈ g_WS ∧ Cond.selects y_RR_found.cls y_RR_found y_RR_found ∈ g_WS := ⟨w_624, w_625⟩
theorem sv_RL_append : Cond.instanceMethod y_RL_append ∈ g_WS ∧ Cond.selects y_RL_append.cls y_RL_append y_RL_append ∈ g_WS := ⟨w_628, w_629⟩
theorem sv_Ru_copyFrom : Cond.instanceMethod y_Ru_copyFrom ∈ g_WS ∧ Cond.selects y_Ru_copyFrom.cls y_Ru_copyFrom y_Ru_copyFrom ∈ g_WS := ⟨w_632, w_633⟩
theorem sv_La_remove : Cond.static y_La_remove ∈ g_WS := w_636
theorem sv_RD_remove : Cond.instanceMethod y_RD_remove ∈ g_WS ∧ Cond.selects y_RD_remove.cls y_RD_remove y_RD_remove ∈ g_WS := ⟨w_639, w_640⟩
theorem sv_RD_requireRule : Cond.instanceMethod y_RD_requireRule ∈ g_WS ∧ Cond.selects y_RD_requireRule.cls y_RD_requireRule y_RD_requireRule ∈ g_WS := ⟨w_644, g_memP 12 (by decide +kernel) (by decide +kernel)⟩
theorem sv_RL_has : Cond.instanceMethod y_RL_has ∈ g_WS ∧ Cond.selects y_RL_has.cls y_RL_has y_RL_has ∈ g_WS := ⟨w_647, w_648⟩
theorem sv_RL_takeOut : Cond.instanceMethod y_RL_takeOut ∈ g_WS ∧ Cond.selects y_RL_takeOut.cls y_RL_takeOut y_RL_takeOut ∈ g_WS := ⟨w_652, w_653⟩
theorem sv_RL_exchange : Cond.instanceMethod y_RL_exchange ∈ g_WS ∧ Cond.selects y_RL_exchange.cls y_RL_exchange y_RL_exchange ∈ g_WS := ⟨w_656, w_657⟩
theorem sv_La_swap : Cond.static y_La_swap ∈ g_WS := w_660
theorem sv_RD_swap : Cond.instanceMethod y_RD_swap ∈ g_WS ∧ Cond.selects y_RD_swap.cls y_RD_swap y_RD_swap ∈ g_WS := ⟨w_663, w_664⟩
theorem sv_La_rules : Cond.static y_La_rules ∈ g_WS := w_668
theorem sv_RD_rules : Cond.instanceMethod y_RD_rules ∈ g_WS ∧ Cond.selects y_RD_rules.cls y_RD_rules y_RD_rules ∈ g_WS := ⟨w_671, w_672⟩
theorem sv_La_rule : Cond.static y_La_rule ∈ g_WS := w_676
theorem sv_RD_rule : Cond.instanceMethod y_RD_rule ∈ g_WS ∧ Cond.selects y_RD_rule.cls y_RD_rule y_RD_rule ∈ g_WS := ⟨w_679, w_680⟩
theorem sv_Ru_number : Cond.instanceMethod y_Ru_number ∈ g_WS ∧ Cond.selects y_Ru_number.cls y_Ru_number y_Ru_number ∈ g_WS := ⟨w_685, w_686⟩
theorem sv_La_verdict : Cond.static y_La_verdict ∈ g_WS := w_689
theorem sv_RD_verdict : Cond.instanceMethod y_RD_verdict ∈ g_WS ∧ Cond.selects y_RD_verdict.cls y_RD_verdict y_RD_verdict ∈ g_WS := ⟨w_692, w_693⟩
theorem sv_RD_packetOf : Cond.static y_RD_packetOf ∈ g_WS := w_696
theorem sv_RD_requireValue : Cond.static y_RD_requireValue ∈ g_WS := w_699
theorem sv_RD_joined : Cond.static y_RD_joined ∈ g_WS := w_704
theorem sv_RL_judge : Cond.instanceMethod y_RL_judge ∈ g_WS ∧ Cond.selects y_RL_judge.cls y_RL_judge y_RL_judge ∈ g_WS := ⟨w_709, w_710⟩
theorem sv_RL_firstFor : Cond.instanceMethod y_RL_firstFor ∈ g_WS ∧ Cond.selects y_RL_firstFor.cls y_RL_firstFor y_RL_firstFor ∈ g_WS := ⟨w_713, w_714⟩
theorem sv_Ru_matches : Cond.instanceMethod y_Ru_matches ∈ g_WS ∧ Cond.selects y_Ru_matches.cls y_Ru_matches y_Ru_matches ∈ g_WS := ⟨w_717, w_718⟩
theorem sv_RD_valueOf : Cond.static y_RD_valueOf ∈ g_WS := w_721
theorem sv_La_first : Cond.static y_La_first ∈ g_WS := w_725
theorem sv_RD_first : Cond.instanceMethod y_RD_first ∈ g_WS ∧ Cond.selects y_RD_first.cls y_RD_first y_RD_first ∈ g_WS := ⟨w_728, w_729⟩
theorem sv_La_count : Cond.static y_La_count ∈ g_WS := w_733
theorem sv_RD_count : Cond.instanceMethod y_RD_count ∈ g_WS ∧ Cond.selects y_RD_count.cls y_RD_count y_RD_count ∈ g_WS := ⟨w_736, w_737⟩
theorem sv_Di_compile : Cond.instanceMethod y_Di_compile ∈ g_WS ∧ Cond.selects y_Di_compile.cls y_Di_compile y_Di_compile ∈ g_WS := ⟨w_741, w_742⟩
theorem sv_Di_countWays : Cond.instanceMethod y_Di_countWays ∈ g_WS ∧ Cond.selects y_Di_countWays.cls y_Di_countWays y_Di_countWays ∈ g_WS := ⟨w_750, g_memP 13 (by decide +kernel) (by decide +kernel)⟩
theorem sv_Di_isTable : Cond.instanceMethod y_Di_isTable ∈ g_WS ∧ Cond.selects y_Di_isTable.cls y_Di_isTable y_Di_isTable ∈ g_WS := ⟨w_755, g_memP 14 (by decide +kernel) (by decide +kernel)⟩
theorem sv_Di_countWaysBehind : Cond.instanceMethod y_Di_countWaysBehind ∈ g_WS ∧ Cond.selects y_Di_countWaysBehind.cls y_Di_countWaysBehind y_Di_countWaysBehind ∈ g_WS := ⟨w_759, g_memP 15 (by decide +kernel) (by decide +kernel)⟩
theorem sv_Di_packetsWith : Cond.instanceMethod y_Di_packetsWith ∈ g_WS ∧ Cond.selects y_Di_packetsWith.cls y_Di_packetsWith y_Di_packetsWith ∈ g_WS := ⟨w_765, w_766⟩
theorem sv_La_nodes : Cond.static y_La_nodes ∈ g_WS := w_770
theorem sv_RD_nodes : Cond.instanceMethod y_RD_nodes ∈ g_WS ∧ Cond.selects y_RD_nodes.cls y_RD_nodes y_RD_nodes ∈ g_WS := ⟨w_773, w_774⟩
theorem sv_RD_requireField : Cond.static y_RD_requireField ∈ g_WS := w_777
theorem sv_Di_uniteTables : Cond.instanceMethod y_Di_uniteTables ∈ g_WS ∧ Cond.selects y_Di_uniteTables.cls y_Di_uniteTables y_Di_uniteTables ∈ g_WS := ⟨w_781, w_782⟩
theorem sv_Di_firstLike : Cond.instanceMethod y_Di_firstLike ∈ g_WS ∧ Cond.selects y_Di_firstLike.cls y_Di_firstLike y_Di_firstLike ∈ g_WS := ⟨w_786, g_memP 16 (by decide +kernel) (by decide +kernel)⟩
theorem sv_Di_areAlike : Cond.instanceMethod y_Di_areAlike ∈ g_WS ∧ Cond.selects y_Di_areAlike.cls y_Di_areAlike y_Di_areAlike ∈ g_WS := ⟨w_790, g_memP 17 (by decide +kernel) (by decide +kernel)⟩
theorem sv_Di_restOf : Cond.instanceMethod y_Di_restOf ∈ g_WS ∧ Cond.selects y_Di_restOf.cls y_Di_restOf y_Di_restOf ∈ g_WS := ⟨w_794, g_memP 18 (by decide +kernel) (by decide +kernel)⟩
theorem sv_Di_nodesOf : Cond.instanceMethod y_Di_nodesOf ∈ g_WS ∧ Cond.selects y_Di_nodesOf.cls y_Di_nodesOf y_Di_nodesOf ∈ g_WS := ⟨w_797, w_798⟩
theorem sv_Di_isNode : Cond.instanceMethod y_Di_isNode ∈ g_WS ∧ Cond.selects y_Di_isNode.cls y_Di_isNode y_Di_isNode ∈ g_WS := ⟨w_802, g_memP 19 (by decide +kernel) (by decide +kernel)⟩
theorem sv_Di_rowsOf : Cond.instanceMethod y_Di_rowsOf ∈ g_WS ∧ Cond.selects y_Di_rowsOf.cls y_Di_rowsOf y_Di_rowsOf ∈ g_WS := ⟨w_806, g_memP 20 (by decide +kernel) (by decide +kernel)⟩
theorem sv_La_edges : Cond.static y_La_edges ∈ g_WS := w_809
theorem sv_RD_edges : Cond.instanceMethod y_RD_edges ∈ g_WS ∧ Cond.selects y_RD_edges.cls y_RD_edges y_RD_edges ∈ g_WS := ⟨w_812, w_813⟩
theorem sv_Di_edgesOf : Cond.instanceMethod y_Di_edgesOf ∈ g_WS ∧ Cond.selects y_Di_edgesOf.cls y_Di_edgesOf y_Di_edgesOf ∈ g_WS := ⟨w_816, w_817⟩
theorem sv_La_witness : Cond.static y_La_witness ∈ g_WS := w_820
theorem sv_RD_witness : Cond.instanceMethod y_RD_witness ∈ g_WS ∧ Cond.selects y_RD_witness.cls y_RD_witness y_RD_witness ∈ g_WS := ⟨w_823, w_824⟩
theorem sv_Co_firstUnlike : Cond.instanceMethod y_Co_firstUnlike ∈ g_WS ∧ Cond.selects y_Co_firstUnlike.cls y_Co_firstUnlike y_Co_firstUnlike ∈ g_WS := ⟨w_827, w_828⟩
theorem sv_Co_firstUnlikeRow : Cond.instanceMethod y_Co_firstUnlikeRow ∈ g_WS ∧ Cond.selects y_Co_firstUnlikeRow.cls y_Co_firstUnlikeRow y_Co_firstUnlikeRow ∈ g_WS := ⟨w_832, g_memP 21 (by decide +kernel) (by decide +kernel)⟩
theorem sv_Cu_start : Cond.instanceMethod y_Cu_start ∈ g_WS ∧ Cond.selects y_Cu_start.cls y_Cu_start y_Cu_start ∈ g_WS := ⟨w_835, w_836⟩
theorem sv_La_used : Cond.static y_La_used ∈ g_WS := w_841
theorem sv_RD_used : Cond.instanceMethod y_RD_used ∈ g_WS ∧ Cond.selects y_RD_used.cls y_RD_used y_RD_used ∈ g_WS := ⟨w_844, w_845⟩
theorem sv_Di_packetsOf : Cond.instanceMethod y_Di_packetsOf ∈ g_WS ∧ Cond.selects y_Di_packetsOf.cls y_Di_packetsOf y_Di_packetsOf ∈ g_WS := ⟨w_848, w_849⟩
theorem sv_La_prune : Cond.static y_La_prune ∈ g_WS := w_853
theorem sv_RD_prune : Cond.instanceMethod y_RD_prune ∈ g_WS ∧ Cond.selects y_RD_prune.cls y_RD_prune y_RD_prune ∈ g_WS := ⟨w_856, w_857⟩
theorem sv_La_pass : Cond.static y_La_pass ∈ g_WS := w_860
theorem sv_RD_pass : Cond.instanceMethod y_RD_pass ∈ g_WS ∧ Cond.selects y_RD_pass.cls y_RD_pass y_RD_pass ∈ g_WS := ⟨w_863, w_864⟩
theorem sv_Ga_connectionOf : Cond.instanceMethod y_Ga_connectionOf ∈ g_WS ∧ Cond.selects y_Ga_connectionOf.cls y_Ga_connectionOf y_Ga_connectionOf ∈ g_WS := ⟨w_867, w_868⟩
theorem sv_Ga_renew : Cond.instanceMethod y_Ga_renew ∈ g_WS ∧ Cond.selects y_Ga_renew.cls y_Ga_renew y_Ga_renew ∈ g_WS := ⟨w_873, w_874⟩
theorem sv_Ga_close : Cond.instanceMethod y_Ga_close ∈ g_WS ∧ Cond.selects y_Ga_close.cls y_Ga_close y_Ga_close ∈ g_WS := ⟨w_878, g_memP 22 (by decide +kernel) (by decide +kernel)⟩
theorem sv_Ga_open : Cond.instanceMethod y_Ga_open ∈ g_WS ∧ Cond.selects y_Ga_open.cls y_Ga_open y_Ga_open ∈ g_WS := ⟨w_881, w_882⟩
theorem sv_La_connection : Cond.static y_La_connection ∈ g_WS := w_886
theorem sv_RD_connection : Cond.instanceMethod y_RD_connection ∈ g_WS ∧ Cond.selects y_RD_connection.cls y_RD_connection y_RD_connection ∈ g_WS := ⟨w_889, w_890⟩
theorem sv_Ga_has : Cond.instanceMethod y_Ga_has ∈ g_WS ∧ Cond.selects y_Ga_has.cls y_Ga_has y_Ga_has ∈ g_WS := ⟨w_893, w_894⟩
theorem sv_Ga_at : Cond.instanceMethod y_Ga_at ∈ g_WS ∧ Cond.selects y_Ga_at.cls y_Ga_at y_Ga_at ∈ g_WS := ⟨w_897, w_898⟩
theorem sv_Mo_init : y_Mo_init.name = "<init>" ∧ Cond.instanceMethod y_Mo_init ∈ g_WS := ⟨rfl, w_903⟩
theorem sv_Mo_thrown : Cond.instanceMethod y_Mo_thrown ∈ g_WS ∧ Cond.selects y_Mo_thrown.cls y_Mo_thrown y_Mo_thrown ∈ g_WS := ⟨w_962, w_963⟩
theorem sv_Mo_put : Cond.instanceMethod y_Mo_put ∈ g_WS ∧ Cond.selects y_Mo_put.cls y_Mo_put y_Mo_put ∈ g_WS := ⟨w_966, w_967⟩
theorem sv_Mo_refuse : Cond.instanceMethod y_Mo_refuse ∈ g_WS ∧ Cond.selects y_Mo_refuse.cls y_Mo_refuse y_Mo_refuse ∈ g_WS := ⟨w_971, g_memP 23 (by decide +kernel) (by decide +kernel)⟩
theorem sv_Mo_read : Cond.instanceMethod y_Mo_read ∈ g_WS ∧ Cond.selects y_Mo_read.cls y_Mo_read y_Mo_read ∈ g_WS := ⟨w_974, w_975⟩
theorem sv_Mo_in : Cond.static y_Mo_in ∈ g_WS := w_978
theorem sv_Mo_blanks : Cond.instanceMethod y_Mo_blanks ∈ g_WS ∧ Cond.selects y_Mo_blanks.cls y_Mo_blanks y_Mo_blanks ∈ g_WS := ⟨w_982, g_memP 24 (by decide +kernel) (by decide +kernel)⟩
theorem sv_Mo_sign : Cond.instanceMethod y_Mo_sign ∈ g_WS ∧ Cond.selects y_Mo_sign.cls y_Mo_sign y_Mo_sign ∈ g_WS := ⟨w_986, g_memP 25 (by decide +kernel) (by decide +kernel)⟩
theorem sv_Mo_readRule : Cond.instanceMethod y_Mo_readRule ∈ g_WS ∧ Cond.selects y_Mo_readRule.cls y_Mo_readRule y_Mo_readRule ∈ g_WS := ⟨w_990, g_memP 26 (by decide +kernel) (by decide +kernel)⟩
theorem sv_Mo_word : Cond.instanceMethod y_Mo_word ∈ g_WS ∧ Cond.selects y_Mo_word.cls y_Mo_word y_Mo_word ∈ g_WS := ⟨w_994, g_memP 27 (by decide +kernel) (by decide +kernel)⟩
theorem sv_Mo_isLetter : Cond.static y_Mo_isLetter ∈ g_WS := w_997
theorem sv_Mo_verdictOf : Cond.static y_Mo_verdictOf ∈ g_WS := w_1000
theorem sv_Mo_spell : Cond.static y_Mo_spell ∈ g_WS := w_1003
theorem sv_Mo_bad : Cond.instanceMethod y_Mo_bad ∈ g_WS ∧ Cond.selects y_Mo_bad.cls y_Mo_bad y_Mo_bad ∈ g_WS := ⟨w_1007, g_memP 28 (by decide +kernel) (by decide +kernel)⟩
theorem sv_Mo_most : Cond.static y_Mo_most ∈ g_WS := w_1010
theorem sv_Mo_bits : Cond.static y_Mo_bits ∈ g_WS := w_1013
theorem sv_Mo_fieldOf : Cond.static y_Mo_fieldOf ∈ g_WS := w_1016
theorem sv_Mo_values : Cond.instanceMethod y_Mo_values ∈ g_WS ∧ Cond.selects y_Mo_values.cls y_Mo_values y_Mo_values ∈ g_WS := ⟨w_1020, g_memP 29 (by decide +kernel) (by decide +kernel)⟩
theorem sv_Mo_number : Cond.instanceMethod y_Mo_number ∈ g_WS ∧ Cond.selects y_Mo_number.cls y_Mo_number y_Mo_number ∈ g_WS := ⟨w_1024, g_memP 30 (by decide +kernel) (by decide +kernel)⟩
theorem sv_Mo_isDigit : Cond.static y_Mo_isDigit ∈ g_WS := w_1027
theorem sv_Mo_remove : Cond.instanceMethod y_Mo_remove ∈ g_WS ∧ Cond.selects y_Mo_remove.cls y_Mo_remove y_Mo_remove ∈ g_WS := ⟨w_1030, w_1031⟩
theorem sv_Mo_noRule : Cond.instanceMethod y_Mo_noRule ∈ g_WS ∧ Cond.selects y_Mo_noRule.cls y_Mo_noRule y_Mo_noRule ∈ g_WS := ⟨w_1035, g_memP 31 (by decide +kernel) (by decide +kernel)⟩
theorem sv_Mo_drop : Cond.instanceMethod y_Mo_drop ∈ g_WS ∧ Cond.selects y_Mo_drop.cls y_Mo_drop y_Mo_drop ∈ g_WS := ⟨w_1039, g_memP 32 (by decide +kernel) (by decide +kernel)⟩
theorem sv_Mo_move : Cond.instanceMethod y_Mo_move ∈ g_WS ∧ Cond.selects y_Mo_move.cls y_Mo_move y_Mo_move ∈ g_WS := ⟨w_1043, g_memP 33 (by decide +kernel) (by decide +kernel)⟩
theorem sv_Mo_swap : Cond.instanceMethod y_Mo_swap ∈ g_WS ∧ Cond.selects y_Mo_swap.cls y_Mo_swap y_Mo_swap ∈ g_WS := ⟨w_1046, w_1047⟩
theorem sv_Mo_rules : Cond.instanceMethod y_Mo_rules ∈ g_WS ∧ Cond.selects y_Mo_rules.cls y_Mo_rules y_Mo_rules ∈ g_WS := ⟨w_1050, w_1051⟩
theorem sv_Mo_rule : Cond.instanceMethod y_Mo_rule ∈ g_WS ∧ Cond.selects y_Mo_rule.cls y_Mo_rule y_Mo_rule ∈ g_WS := ⟨w_1054, w_1055⟩
theorem sv_Mo_verdict : Cond.instanceMethod y_Mo_verdict ∈ g_WS ∧ Cond.selects y_Mo_verdict.cls y_Mo_verdict y_Mo_verdict ∈ g_WS := ⟨w_1058, w_1059⟩
theorem sv_Mo_noPacket : Cond.instanceMethod y_Mo_noPacket ∈ g_WS ∧ Cond.selects y_Mo_noPacket.cls y_Mo_noPacket y_Mo_noPacket ∈ g_WS := ⟨w_1063, g_memP 34 (by decide +kernel) (by decide +kernel)⟩
theorem sv_Mo_verdictBy : Cond.instanceMethod y_Mo_verdictBy ∈ g_WS ∧ Cond.selects y_Mo_verdictBy.cls y_Mo_verdictBy y_Mo_verdictBy ∈ g_WS := ⟨w_1067, g_memP 35 (by decide +kernel) (by decide +kernel)⟩
theorem sv_Mo_firstOf : Cond.instanceMethod y_Mo_firstOf ∈ g_WS ∧ Cond.selects y_Mo_firstOf.cls y_Mo_firstOf y_Mo_firstOf ∈ g_WS := ⟨w_1071, g_memP 36 (by decide +kernel) (by decide +kernel)⟩
theorem sv_Mo_matches : Cond.instanceMethod y_Mo_matches ∈ g_WS ∧ Cond.selects y_Mo_matches.cls y_Mo_matches y_Mo_matches ∈ g_WS := ⟨w_1075, g_memP 37 (by decide +kernel) (by decide +kernel)⟩
theorem sv_Mo_first : Cond.instanceMethod y_Mo_first ∈ g_WS ∧ Cond.selects y_Mo_first.cls y_Mo_first y_Mo_first ∈ g_WS := ⟨w_1078, w_1079⟩
theorem sv_Mo_count : Cond.instanceMethod y_Mo_count ∈ g_WS ∧ Cond.selects y_Mo_count.cls y_Mo_count y_Mo_count ∈ g_WS := ⟨w_1082, w_1083⟩
theorem sv_Mo_sum : Cond.instanceMethod y_Mo_sum ∈ g_WS ∧ Cond.selects y_Mo_sum.cls y_Mo_sum y_Mo_sum ∈ g_WS := ⟨w_1087, g_memP 38 (by decide +kernel) (by decide +kernel)⟩
theorem sv_Mo_cutBy : Cond.instanceMethod y_Mo_cutBy ∈ g_WS ∧ Cond.selects y_Mo_cutBy.cls y_Mo_cutBy y_Mo_cutBy ∈ g_WS := ⟨w_1091, g_memP 39 (by decide +kernel) (by decide +kernel)⟩
theorem sv_Mo_addCut : Cond.instanceMethod y_Mo_addCut ∈ g_WS ∧ Cond.selects y_Mo_addCut.cls y_Mo_addCut y_Mo_addCut ∈ g_WS := ⟨w_1095, g_memP 40 (by decide +kernel) (by decide +kernel)⟩
theorem sv_Mo_cut : Cond.instanceMethod y_Mo_cut ∈ g_WS ∧ Cond.selects y_Mo_cut.cls y_Mo_cut y_Mo_cut ∈ g_WS := ⟨w_1099, g_memP 41 (by decide +kernel) (by decide +kernel)⟩
theorem sv_Mo_width : Cond.instanceMethod y_Mo_width ∈ g_WS ∧ Cond.selects y_Mo_width.cls y_Mo_width y_Mo_width ∈ g_WS := ⟨w_1103, g_memP 42 (by decide +kernel) (by decide +kernel)⟩
theorem sv_Mo_used : Cond.instanceMethod y_Mo_used ∈ g_WS ∧ Cond.selects y_Mo_used.cls y_Mo_used y_Mo_used ∈ g_WS := ⟨w_1106, w_1107⟩
theorem sv_Mo_prune : Cond.instanceMethod y_Mo_prune ∈ g_WS ∧ Cond.selects y_Mo_prune.cls y_Mo_prune y_Mo_prune ∈ g_WS := ⟨w_1110, w_1111⟩
theorem sv_Mo_differing : Cond.instanceMethod y_Mo_differing ∈ g_WS ∧ Cond.selects y_Mo_differing.cls y_Mo_differing y_Mo_differing ∈ g_WS := ⟨w_1114, w_1115⟩
theorem sv_Mo_differ : Cond.instanceMethod y_Mo_differ ∈ g_WS ∧ Cond.selects y_Mo_differ.cls y_Mo_differ y_Mo_differ ∈ g_WS := ⟨w_1119, g_memP 43 (by decide +kernel) (by decide +kernel)⟩
theorem sv_Mo_witness : Cond.instanceMethod y_Mo_witness ∈ g_WS ∧ Cond.selects y_Mo_witness.cls y_Mo_witness y_Mo_witness ∈ g_WS := ⟨w_1122, w_1123⟩
theorem sv_Mo_nodes : Cond.instanceMethod y_Mo_nodes ∈ g_WS ∧ Cond.selects y_Mo_nodes.cls y_Mo_nodes y_Mo_nodes ∈ g_WS := ⟨w_1126, w_1127⟩
theorem sv_Mo_fill : Cond.instanceMethod y_Mo_fill ∈ g_WS ∧ Cond.selects y_Mo_fill.cls y_Mo_fill y_Mo_fill ∈ g_WS := ⟨w_1131, g_memP 44 (by decide +kernel) (by decide +kernel)⟩
theorem sv_Mo_room : Cond.static y_Mo_room ∈ g_WS := w_1134
theorem sv_Mo_counted : Cond.instanceMethod y_Mo_counted ∈ g_WS ∧ Cond.selects y_Mo_counted.cls y_Mo_counted y_Mo_counted ∈ g_WS := ⟨w_1138, g_memP 45 (by decide +kernel) (by decide +kernel)⟩
theorem sv_Mo_wide : Cond.static y_Mo_wide ∈ g_WS := w_1141
theorem sv_Mo_rows : Cond.instanceMethod y_Mo_rows ∈ g_WS ∧ Cond.selects y_Mo_rows.cls y_Mo_rows y_Mo_rows ∈ g_WS := ⟨w_1145, g_memP 46 (by decide +kernel) (by decide +kernel)⟩
theorem sv_Mo_same : Cond.instanceMethod y_Mo_same ∈ g_WS ∧ Cond.selects y_Mo_same.cls y_Mo_same y_Mo_same ∈ g_WS := ⟨w_1149, g_memP 47 (by decide +kernel) (by decide +kernel)⟩
theorem sv_Mo_isReal : Cond.instanceMethod y_Mo_isReal ∈ g_WS ∧ Cond.selects y_Mo_isReal.cls y_Mo_isReal y_Mo_isReal ∈ g_WS := ⟨w_1153, g_memP 48 (by decide +kernel) (by decide +kernel)⟩
theorem sv_Mo_edges : Cond.instanceMethod y_Mo_edges ∈ g_WS ∧ Cond.selects y_Mo_edges.cls y_Mo_edges y_Mo_edges ∈ g_WS := ⟨w_1156, w_1157⟩
theorem sv_Mo_pass : Cond.instanceMethod y_Mo_pass ∈ g_WS ∧ Cond.selects y_Mo_pass.cls y_Mo_pass y_Mo_pass ∈ g_WS := ⟨w_1160, w_1161⟩
theorem sv_Mo_isLink : Cond.instanceMethod y_Mo_isLink ∈ g_WS ∧ Cond.selects y_Mo_isLink.cls y_Mo_isLink y_Mo_isLink ∈ g_WS := ⟨w_1165, g_memP 49 (by decide +kernel) (by decide +kernel)⟩
theorem sv_Mo_unlink : Cond.instanceMethod y_Mo_unlink ∈ g_WS ∧ Cond.selects y_Mo_unlink.cls y_Mo_unlink y_Mo_unlink ∈ g_WS := ⟨w_1169, g_memP 50 (by decide +kernel) (by decide +kernel)⟩
theorem sv_Mo_link : Cond.instanceMethod y_Mo_link ∈ g_WS ∧ Cond.selects y_Mo_link.cls y_Mo_link y_Mo_link ∈ g_WS := ⟨w_1173, g_memP 51 (by decide +kernel) (by decide +kernel)⟩
theorem sv_Mo_connection : Cond.instanceMethod y_Mo_connection ∈ g_WS ∧ Cond.selects y_Mo_connection.cls y_Mo_connection y_Mo_connection ∈ g_WS := ⟨w_1176, w_1177⟩
theorem n_La_8 : g_N "RuleDiagramLaw" 8 0 6 [.null, .null, .null, .null, .null, .null] := ⟨R_RD, F_RD, rfl, uw_RD, w_26, w_27, w_1, ft_RD, tk_RD, by decide +kernel⟩
theorem n_RD_9 : g_N "RuleDiagram" 9 1 2 [.null, .int 0] := ⟨R_Tx, F_Tx, rfl, uw_Tx, w_34, w_35, w_2, ft_Tx, tk_Tx, by decide +kernel⟩
theorem n_RD_16 : g_N "RuleDiagram" 16 3 3 [.null, .null, .int 0] := ⟨R_RR, F_RR, rfl, uw_RR, w_48, w_49, w_3, ft_RR, tk_RR, by decide +kernel⟩
theorem n_RR_9 : g_N "RuleDiagram$RuleReader" 9 2 4 [.null, .int 0, .int 0, .int 0] := ⟨R_Pi, F_Pi, rfl, uw_Pi, w_54, w_55, w_4, ft_Pi, tk_Pi, by decide +kernel⟩
theorem n_RR_20 : g_N "RuleDiagram$RuleReader" 20 4 3 [.null, .null, .int 0] := ⟨R_Ru, F_Ru, rfl, uw_Ru, w_73, w_75, w_5, ft_Ru, tk_Ru, by decide +kernel⟩
theorem n_RD_25 : g_N "RuleDiagram" 25 5 2 [.null, .int 0] := ⟨R_RL, F_RL, rfl, uw_RL, w_101, w_105, w_6, ft_RL, tk_RL, by decide +kernel⟩
theorem n_RD_31 : g_N "RuleDiagram" 31 7 5 [.null, .null, .null, .null, .int 0] := ⟨R_Di, F_Di, rfl, uw_Di, w_103, w_119, w_7, ft_Di, tk_Di, by decide +kernel⟩
theorem n_RL_9 : g_N "RuleDiagram$RuleList" 9 4 3 [.null, .null, .int 0] := ⟨R_Ru, F_Ru, rfl, uw_Ru, w_110, w_75, w_5, ft_Ru, tk_Ru, by decide +kernel⟩
theorem n_Di_15 : g_N "RuleDiagram$Diagram" 15 6 4 [.int 0, .null, .null, .int 0] := ⟨R_Cu, F_Cu, rfl, uw_Cu, w_124, w_126, w_8, ft_Cu, tk_Cu, by decide +kernel⟩
theorem n_RD_41 : g_N "RuleDiagram" 41 8 3 [.null, .null, .null] := ⟨R_Co, F_Co, rfl, uw_Co, w_162, w_163, w_9, ft_Co, tk_Co, by decide +kernel⟩
theorem n_Co_18 : g_N "RuleDiagram$Comparison" 18 6 4 [.int 0, .null, .null, .int 0] := ⟨R_Cu, F_Cu, rfl, uw_Cu, w_168, w_126, w_8, ft_Cu, tk_Cu, by decide +kernel⟩
theorem n_RD_50 : g_N "RuleDiagram" 50 9 2 [.null, .int 0] := ⟨R_Ga, F_Ga, rfl, uw_Ga, w_180, w_181, w_10, ft_Ga, tk_Ga, by decide +kernel⟩
theorem n_La_69 : g_N "RuleDiagramLaw" 69 10 18 [.int 0, .null, .int 0, .null, .null, .null, .null, .null, .int 0, .null, .null, .null, .null, .null, .null, .int 0, .int 0, .int 0] := ⟨R_Mo, F_Mo, rfl, uw_Mo, w_900, w_901, w_11, ft_Mo, tk_Mo, by decide +kernel⟩
