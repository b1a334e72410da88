theorem dX5_init_0 : decode cX5_init 0 = .ok (.aload_n 0, 1) := by decide +kernel
theorem dX5_init_1 : decode cX5_init 1 = .ok (.invokespecial 1, 3) := by decide +kernel
theorem dX5_init_4 : decode cX5_init 4 = .ok (.aload_n 0, 1) := by decide +kernel
theorem dX5_init_5 : decode cX5_init 5 = .ok (.bipush 12, 2) := by decide +kernel
theorem dX5_init_7 : decode cX5_init 7 = .ok (.newarray .int, 2) := by decide +kernel
theorem dX5_init_9 : decode cX5_init 9 = .ok (.putfield 7, 3) := by decide +kernel
theorem dX5_init_12 : decode cX5_init 12 = .ok (.aload_n 0, 1) := by decide +kernel
theorem dX5_init_13 : decode cX5_init 13 = .ok (.bipush 12, 2) := by decide +kernel
theorem dX5_init_15 : decode cX5_init 15 = .ok (.newarray .boolean, 2) := by decide +kernel
theorem dX5_init_17 : decode cX5_init 17 = .ok (.putfield 13, 3) := by decide +kernel
theorem dX5_init_20 : decode cX5_init 20 = .ok (.aload_n 0, 1) := by decide +kernel
theorem dX5_init_21 : decode cX5_init 21 = .ok (.bipush 72, 2) := by decide +kernel
theorem dX5_init_23 : decode cX5_init 23 = .ok (.newarray .int, 2) := by decide +kernel
theorem dX5_init_25 : decode cX5_init 25 = .ok (.putfield 17, 3) := by decide +kernel
theorem dX5_init_28 : decode cX5_init 28 = .ok (.aload_n 0, 1) := by decide +kernel
theorem dX5_init_29 : decode cX5_init 29 = .ok (.bipush 72, 2) := by decide +kernel
theorem dX5_init_31 : decode cX5_init 31 = .ok (.newarray .int, 2) := by decide +kernel
theorem dX5_init_33 : decode cX5_init 33 = .ok (.putfield 20, 3) := by decide +kernel
theorem dX5_init_36 : decode cX5_init 36 = .ok (.aload_n 0, 1) := by decide +kernel
theorem dX5_init_37 : decode cX5_init 37 = .ok (.bipush 72, 2) := by decide +kernel
theorem dX5_init_39 : decode cX5_init 39 = .ok (.newarray .int, 2) := by decide +kernel
theorem dX5_init_41 : decode cX5_init 41 = .ok (.putfield 23, 3) := by decide +kernel
theorem dX5_init_44 : decode cX5_init 44 = .ok (.aload_n 0, 1) := by decide +kernel
theorem dX5_init_45 : decode cX5_init 45 = .ok (.sipush 144, 3) := by decide +kernel
theorem dX5_init_48 : decode cX5_init 48 = .ok (.newarray .int, 2) := by decide +kernel
theorem dX5_init_50 : decode cX5_init 50 = .ok (.putfield 26, 3) := by decide +kernel
theorem dX5_init_53 : decode cX5_init 53 = .ok (.aload_n 0, 1) := by decide +kernel
theorem dX5_init_54 : decode cX5_init 54 = .ok (.bipush 18, 2) := by decide +kernel
theorem dX5_init_56 : decode cX5_init 56 = .ok (.newarray .int, 2) := by decide +kernel
theorem dX5_init_58 : decode cX5_init 58 = .ok (.putfield 29, 3) := by decide +kernel
theorem dX5_init_61 : decode cX5_init 61 = .ok (.aload_n 0, 1) := by decide +kernel
theorem dX5_init_62 : decode cX5_init 62 = .ok (.bipush 18, 2) := by decide +kernel
theorem dX5_init_64 : decode cX5_init 64 = .ok (.newarray .boolean, 2) := by decide +kernel
theorem dX5_init_66 : decode cX5_init 66 = .ok (.putfield 32, 3) := by decide +kernel
theorem dX5_init_69 : decode cX5_init 69 = .ok (.aload_n 0, 1) := by decide +kernel
theorem dX5_init_70 : decode cX5_init 70 = .ok (.bipush 6, 2) := by decide +kernel
theorem dX5_init_72 : decode cX5_init 72 = .ok (.newarray .int, 2) := by decide +kernel
theorem dX5_init_74 : decode cX5_init 74 = .ok (.putfield 35, 3) := by decide +kernel
theorem dX5_init_77 : decode cX5_init 77 = .ok (.aload_n 0, 1) := by decide +kernel
theorem dX5_init_78 : decode cX5_init 78 = .ok (.bipush 6, 2) := by decide +kernel
theorem dX5_init_80 : decode cX5_init 80 = .ok (.newarray .int, 2) := by decide +kernel
theorem dX5_init_82 : decode cX5_init 82 = .ok (.putfield 38, 3) := by decide +kernel
theorem dX5_init_85 : decode cX5_init 85 = .ok (.aload_n 0, 1) := by decide +kernel
theorem dX5_init_86 : decode cX5_init 86 = .ok (.sipush 2232, 3) := by decide +kernel
theorem dX5_init_89 : decode cX5_init 89 = .ok (.newarray .int, 2) := by decide +kernel
theorem dX5_init_91 : decode cX5_init 91 = .ok (.putfield 41, 3) := by decide +kernel
theorem dX5_init_94 : decode cX5_init 94 = .ok (.aload_n 0, 1) := by decide +kernel
theorem dX5_init_95 : decode cX5_init 95 = .ok (.bipush 6, 2) := by decide +kernel
theorem dX5_init_97 : decode cX5_init 97 = .ok (.newarray .long, 2) := by decide +kernel
theorem dX5_init_99 : decode cX5_init 99 = .ok (.putfield 44, 3) := by decide +kernel
theorem dX5_init_102 : decode cX5_init 102 = .ok (.aload_n 0, 1) := by decide +kernel
theorem dX5_init_103 : decode cX5_init 103 = .ok (.bipush 6, 2) := by decide +kernel
theorem dX5_init_105 : decode cX5_init 105 = .ok (.newarray .long, 2) := by decide +kernel
theorem dX5_init_107 : decode cX5_init 107 = .ok (.putfield 48, 3) := by decide +kernel
theorem dX5_init_110 : decode cX5_init 110 = .ok (.iconst 0, 1) := by decide +kernel
theorem dX5_init_111 : decode cX5_init 111 = .ok (.istore_n 1, 1) := by decide +kernel
theorem dX5_init_112 : decode cX5_init 112 = .ok (.iload_n 1, 1) := by decide +kernel
theorem dX5_init_113 : decode cX5_init 113 = .ok (.sipush 144, 3) := by decide +kernel
theorem dX5_init_116 : decode cX5_init 116 = .ok (.if_icmp .ge 18, 3) := by decide +kernel
theorem dX5_init_119 : decode cX5_init 119 = .ok (.aload_n 0, 1) := by decide +kernel
theorem dX5_init_120 : decode cX5_init 120 = .ok (.getfield 26, 3) := by decide +kernel
theorem dX5_init_123 : decode cX5_init 123 = .ok (.iload_n 1, 1) := by decide +kernel
theorem dX5_init_124 : decode cX5_init 124 = .ok (.sipush 1000, 3) := by decide +kernel
theorem dX5_init_127 : decode cX5_init 127 = .ok (.iastore, 1) := by decide +kernel
theorem dX5_init_128 : decode cX5_init 128 = .ok (.iinc 1 1, 3) := by decide +kernel
theorem dX5_init_131 : decode cX5_init 131 = .ok (.goto (-19), 3) := by decide +kernel
theorem dX5_init_134 : decode cX5_init 134 = .ok (.return_, 1) := by decide +kernel
theorem dX5_in_0 : decode cX5_in 0 = .ok (.iload_n 0, 1) := by decide +kernel
theorem dX5_in_1 : decode cX5_in 1 = .ok (.iload_n 1, 1) := by decide +kernel
theorem dX5_in_2 : decode cX5_in 2 = .ok (.if_icmp .lt 12, 3) := by decide +kernel
theorem dX5_in_5 : decode cX5_in 5 = .ok (.iload_n 0, 1) := by decide +kernel
theorem dX5_in_6 : decode cX5_in 6 = .ok (.iload_n 2, 1) := by decide +kernel
theorem dX5_in_7 : decode cX5_in 7 = .ok (.if_icmp .gt 7, 3) := by decide +kernel
theorem dX5_in_10 : decode cX5_in 10 = .ok (.iconst 1, 1) := by decide +kernel
theorem dX5_in_11 : decode cX5_in 11 = .ok (.goto 4, 3) := by decide +kernel
theorem dX5_in_14 : decode cX5_in 14 = .ok (.iconst 0, 1) := by decide +kernel
theorem dX5_in_15 : decode cX5_in 15 = .ok (.ireturn, 1) := by decide +kernel
theorem dX5_isPerson_0 : decode cX5_isPerson 0 = .ok (.iload_n 1, 1) := by decide +kernel
theorem dX5_isPerson_1 : decode cX5_isPerson 1 = .ok (.iconst 0, 1) := by decide +kernel
theorem dX5_isPerson_2 : decode cX5_isPerson 2 = .ok (.aload_n 0, 1) := by decide +kernel
theorem dX5_isPerson_3 : decode cX5_isPerson 3 = .ok (.getfield 51, 3) := by decide +kernel
theorem dX5_isPerson_6 : decode cX5_isPerson 6 = .ok (.iconst 1, 1) := by decide +kernel
theorem dX5_isPerson_7 : decode cX5_isPerson 7 = .ok (.isub, 1) := by decide +kernel
theorem dX5_isPerson_8 : decode cX5_isPerson 8 = .ok (.invokestatic 55, 3) := by decide +kernel
theorem dX5_isPerson_11 : decode cX5_isPerson 11 = .ok (.ireturn, 1) := by decide +kernel
theorem dX5_isQuestion_0 : decode cX5_isQuestion 0 = .ok (.iload_n 1, 1) := by decide +kernel
theorem dX5_isQuestion_1 : decode cX5_isQuestion 1 = .ok (.iconst 0, 1) := by decide +kernel
theorem dX5_isQuestion_2 : decode cX5_isQuestion 2 = .ok (.aload_n 0, 1) := by decide +kernel
theorem dX5_isQuestion_3 : decode cX5_isQuestion 3 = .ok (.getfield 59, 3) := by decide +kernel
theorem dX5_isQuestion_6 : decode cX5_isQuestion 6 = .ok (.iconst 1, 1) := by decide +kernel
theorem dX5_isQuestion_7 : decode cX5_isQuestion 7 = .ok (.isub, 1) := by decide +kernel
theorem dX5_isQuestion_8 : decode cX5_isQuestion 8 = .ok (.invokestatic 55, 3) := by decide +kernel
theorem dX5_isQuestion_11 : decode cX5_isQuestion 11 = .ok (.ireturn, 1) := by decide +kernel
theorem dX5_isProject_0 : decode cX5_isProject 0 = .ok (.iload_n 1, 1) := by decide +kernel
theorem dX5_isProject_1 : decode cX5_isProject 1 = .ok (.iconst 0, 1) := by decide +kernel
theorem dX5_isProject_2 : decode cX5_isProject 2 = .ok (.aload_n 0, 1) := by decide +kernel
theorem dX5_isProject_3 : decode cX5_isProject 3 = .ok (.getfield 62, 3) := by decide +kernel
theorem dX5_isProject_6 : decode cX5_isProject 6 = .ok (.iconst 1, 1) := by decide +kernel
theorem dX5_isProject_7 : decode cX5_isProject 7 = .ok (.isub, 1) := by decide +kernel
theorem dX5_isProject_8 : decode cX5_isProject 8 = .ok (.invokestatic 55, 3) := by decide +kernel
theorem dX5_isProject_11 : decode cX5_isProject 11 = .ok (.ireturn, 1) := by decide +kernel
theorem dX5_person_0 : decode cX5_person 0 = .ok (.iload_n 1, 1) := by decide +kernel
theorem dX5_person_1 : decode cX5_person 1 = .ok (.iconst 0, 1) := by decide +kernel
theorem dX5_person_2 : decode cX5_person 2 = .ok (.sipush 2000, 3) := by decide +kernel
theorem dX5_person_5 : decode cX5_person 5 = .ok (.invokestatic 55, 3) := by decide +kernel
theorem dX5_person_8 : decode cX5_person 8 = .ok (.ifCond .ne 6, 3) := by decide +kernel
theorem dX5_person_11 : decode cX5_person 11 = .ok (.bipush (-102), 2) := by decide +kernel
theorem dX5_person_13 : decode cX5_person 13 = .ok (.ireturn, 1) := by decide +kernel
theorem dX5_person_14 : decode cX5_person 14 = .ok (.aload_n 0, 1) := by decide +kernel
theorem dX5_person_15 : decode cX5_person 15 = .ok (.getfield 51, 3) := by decide +kernel
theorem dX5_person_18 : decode cX5_person 18 = .ok (.bipush 12, 2) := by decide +kernel
theorem dX5_person_20 : decode cX5_person 20 = .ok (.if_icmp .ne 6, 3) := by decide +kernel
theorem dX5_person_23 : decode cX5_person 23 = .ok (.bipush (-104), 2) := by decide +kernel
theorem dX5_person_25 : decode cX5_person 25 = .ok (.ireturn, 1) := by decide +kernel
theorem dX5_person_26 : decode cX5_person 26 = .ok (.aload_n 0, 1) := by decide +kernel
theorem dX5_person_27 : decode cX5_person 27 = .ok (.getfield 7, 3) := by decide +kernel
theorem dX5_person_30 : decode cX5_person 30 = .ok (.aload_n 0, 1) := by decide +kernel
theorem dX5_person_31 : decode cX5_person 31 = .ok (.getfield 51, 3) := by decide +kernel
theorem dX5_person_34 : decode cX5_person 34 = .ok (.iload_n 1, 1) := by decide +kernel
theorem dX5_person_35 : decode cX5_person 35 = .ok (.iastore, 1) := by decide +kernel
theorem dX5_person_36 : decode cX5_person 36 = .ok (.aload_n 0, 1) := by decide +kernel
theorem dX5_person_37 : decode cX5_person 37 = .ok (.getfield 13, 3) := by decide +kernel
theorem dX5_person_40 : decode cX5_person 40 = .ok (.aload_n 0, 1) := by decide +kernel
theorem dX5_person_41 : decode cX5_person 41 = .ok (.getfield 51, 3) := by decide +kernel
theorem dX5_person_44 : decode cX5_person 44 = .ok (.iconst 1, 1) := by decide +kernel
theorem dX5_person_45 : decode cX5_person 45 = .ok (.bastore, 1) := by decide +kernel
theorem dX5_person_46 : decode cX5_person 46 = .ok (.aload_n 0, 1) := by decide +kernel
theorem dX5_person_47 : decode cX5_person 47 = .ok (.dup, 1) := by decide +kernel
theorem dX5_person_48 : decode cX5_person 48 = .ok (.getfield 51, 3) := by decide +kernel
theorem dX5_person_51 : decode cX5_person 51 = .ok (.iconst 1, 1) := by decide +kernel
theorem dX5_person_52 : decode cX5_person 52 = .ok (.iadd, 1) := by decide +kernel
theorem dX5_person_53 : decode cX5_person 53 = .ok (.putfield 51, 3) := by decide +kernel
theorem dX5_person_56 : decode cX5_person 56 = .ok (.aload_n 0, 1) := by decide +kernel
theorem dX5_person_57 : decode cX5_person 57 = .ok (.getfield 51, 3) := by decide +kernel
theorem dX5_person_60 : decode cX5_person 60 = .ok (.iconst 1, 1) := by decide +kernel
theorem dX5_person_61 : decode cX5_person 61 = .ok (.isub, 1) := by decide +kernel
theorem dX5_person_62 : decode cX5_person 62 = .ok (.ireturn, 1) := by decide +kernel
theorem dX5_question_0 : decode cX5_question 0 = .ok (.aload_n 0, 1) := by decide +kernel
theorem dX5_question_1 : decode cX5_question 1 = .ok (.getfield 59, 3) := by decide +kernel
theorem dX5_question_4 : decode cX5_question 4 = .ok (.bipush 6, 2) := by decide +kernel
theorem dX5_question_6 : decode cX5_question 6 = .ok (.if_icmp .ne 6, 3) := by decide +kernel
theorem dX5_question_9 : decode cX5_question 9 = .ok (.bipush (-104), 2) := by decide +kernel
theorem dX5_question_11 : decode cX5_question 11 = .ok (.ireturn, 1) := by decide +kernel
theorem dX5_question_12 : decode cX5_question 12 = .ok (.aload_n 0, 1) := by decide +kernel
theorem dX5_question_13 : decode cX5_question 13 = .ok (.dup, 1) := by decide +kernel
theorem dX5_question_14 : decode cX5_question 14 = .ok (.getfield 59, 3) := by decide +kernel
theorem dX5_question_17 : decode cX5_question 17 = .ok (.iconst 1, 1) := by decide +kernel
theorem dX5_question_18 : decode cX5_question 18 = .ok (.iadd, 1) := by decide +kernel
theorem dX5_question_19 : decode cX5_question 19 = .ok (.putfield 59, 3) := by decide +kernel
theorem dX5_question_22 : decode cX5_question 22 = .ok (.aload_n 0, 1) := by decide +kernel
theorem dX5_question_23 : decode cX5_question 23 = .ok (.getfield 59, 3) := by decide +kernel
theorem dX5_question_26 : decode cX5_question 26 = .ok (.iconst 1, 1) := by decide +kernel
theorem dX5_question_27 : decode cX5_question 27 = .ok (.isub, 1) := by decide +kernel
theorem dX5_question_28 : decode cX5_question 28 = .ok (.ireturn, 1) := by decide +kernel
theorem dX5_project_0 : decode cX5_project 0 = .ok (.aload_n 0, 1) := by decide +kernel
theorem dX5_project_1 : decode cX5_project 1 = .ok (.getfield 62, 3) := by decide +kernel
theorem dX5_project_4 : decode cX5_project 4 = .ok (.bipush 6, 2) := by decide +kernel
theorem dX5_project_6 : decode cX5_project 6 = .ok (.if_icmp .ne 6, 3) := by decide +kernel
theorem dX5_project_9 : decode cX5_project 9 = .ok (.bipush (-104), 2) := by decide +kernel
theorem dX5_project_11 : decode cX5_project 11 = .ok (.ireturn, 1) := by decide +kernel
theorem dX5_project_12 : decode cX5_project 12 = .ok (.aload_n 0, 1) := by decide +kernel
theorem dX5_project_13 : decode cX5_project 13 = .ok (.dup, 1) := by decide +kernel
theorem dX5_project_14 : decode cX5_project 14 = .ok (.getfield 62, 3) := by decide +kernel
theorem dX5_project_17 : decode cX5_project 17 = .ok (.iconst 1, 1) := by decide +kernel
theorem dX5_project_18 : decode cX5_project 18 = .ok (.iadd, 1) := by decide +kernel
theorem dX5_project_19 : decode cX5_project 19 = .ok (.putfield 62, 3) := by decide +kernel
theorem dX5_project_22 : decode cX5_project 22 = .ok (.aload_n 0, 1) := by decide +kernel
theorem dX5_project_23 : decode cX5_project 23 = .ok (.getfield 62, 3) := by decide +kernel
theorem dX5_project_26 : decode cX5_project 26 = .ok (.iconst 1, 1) := by decide +kernel
theorem dX5_project_27 : decode cX5_project 27 = .ok (.isub, 1) := by decide +kernel
theorem dX5_project_28 : decode cX5_project 28 = .ok (.ireturn, 1) := by decide +kernel
theorem dX5_seed_0 : decode cX5_seed 0 = .ok (.aload_n 0, 1) := by decide +kernel
theorem dX5_seed_1 : decode cX5_seed 1 = .ok (.getfield 65, 3) := by decide +kernel
theorem dX5_seed_4 : decode cX5_seed 4 = .ok (.istore_n 2, 1) := by decide +kernel
theorem dX5_seed_5 : decode cX5_seed 5 = .ok (.aload_n 0, 1) := by decide +kernel
theorem dX5_seed_6 : decode cX5_seed 6 = .ok (.iload_n 1, 1) := by decide +kernel
theorem dX5_seed_7 : decode cX5_seed 7 = .ok (.putfield 65, 3) := by decide +kernel
theorem dX5_seed_10 : decode cX5_seed 10 = .ok (.iload_n 2, 1) := by decide +kernel
theorem dX5_seed_11 : decode cX5_seed 11 = .ok (.ireturn, 1) := by decide +kernel
theorem dX5_costOf_0 : decode cX5_costOf 0 = .ok (.iconst 0, 1) := by decide +kernel
theorem dX5_costOf_1 : decode cX5_costOf 1 = .ok (.istore_n 2, 1) := by decide +kernel
theorem dX5_costOf_2 : decode cX5_costOf 2 = .ok (.iconst 0, 1) := by decide +kernel
theorem dX5_costOf_3 : decode cX5_costOf 3 = .ok (.istore_n 3, 1) := by decide +kernel
theorem dX5_costOf_4 : decode cX5_costOf 4 = .ok (.iload_n 3, 1) := by decide +kernel
theorem dX5_costOf_5 : decode cX5_costOf 5 = .ok (.aload_n 0, 1) := by decide +kernel
theorem dX5_costOf_6 : decode cX5_costOf 6 = .ok (.getfield 59, 3) := by decide +kernel
theorem dX5_costOf_9 : decode cX5_costOf 9 = .ok (.if_icmp .ge 35, 3) := by decide +kernel
theorem dX5_costOf_12 : decode cX5_costOf 12 = .ok (.iload_n 2, 1) := by decide +kernel
theorem dX5_costOf_13 : decode cX5_costOf 13 = .ok (.aload_n 0, 1) := by decide +kernel
theorem dX5_costOf_14 : decode cX5_costOf 14 = .ok (.getfield 17, 3) := by decide +kernel
theorem dX5_costOf_17 : decode cX5_costOf 17 = .ok (.bipush 6, 2) := by decide +kernel
theorem dX5_costOf_19 : decode cX5_costOf 19 = .ok (.iload_n 1, 1) := by decide +kernel
theorem dX5_costOf_20 : decode cX5_costOf 20 = .ok (.imul, 1) := by decide +kernel
theorem dX5_costOf_21 : decode cX5_costOf 21 = .ok (.iload_n 3, 1) := by decide +kernel
theorem dX5_costOf_22 : decode cX5_costOf 22 = .ok (.iadd, 1) := by decide +kernel
theorem dX5_costOf_23 : decode cX5_costOf 23 = .ok (.iaload, 1) := by decide +kernel
theorem dX5_costOf_24 : decode cX5_costOf 24 = .ok (.aload_n 0, 1) := by decide +kernel
theorem dX5_costOf_25 : decode cX5_costOf 25 = .ok (.getfield 17, 3) := by decide +kernel
theorem dX5_costOf_28 : decode cX5_costOf 28 = .ok (.bipush 6, 2) := by decide +kernel
theorem dX5_costOf_30 : decode cX5_costOf 30 = .ok (.iload_n 1, 1) := by decide +kernel
theorem dX5_costOf_31 : decode cX5_costOf 31 = .ok (.imul, 1) := by decide +kernel
theorem dX5_costOf_32 : decode cX5_costOf 32 = .ok (.iload_n 3, 1) := by decide +kernel
theorem dX5_costOf_33 : decode cX5_costOf 33 = .ok (.iadd, 1) := by decide +kernel
theorem dX5_costOf_34 : decode cX5_costOf 34 = .ok (.iaload, 1) := by decide +kernel
theorem dX5_costOf_35 : decode cX5_costOf 35 = .ok (.imul, 1) := by decide +kernel
theorem dX5_costOf_36 : decode cX5_costOf 36 = .ok (.iadd, 1) := by decide +kernel
theorem dX5_costOf_37 : decode cX5_costOf 37 = .ok (.istore_n 2, 1) := by decide +kernel
theorem dX5_costOf_38 : decode cX5_costOf 38 = .ok (.iinc 3 1, 3) := by decide +kernel
theorem dX5_costOf_41 : decode cX5_costOf 41 = .ok (.goto (-37), 3) := by decide +kernel
theorem dX5_costOf_44 : decode cX5_costOf 44 = .ok (.iload_n 2, 1) := by decide +kernel
theorem dX5_costOf_45 : decode cX5_costOf 45 = .ok (.ireturn, 1) := by decide +kernel
theorem dX5_vote_0 : decode cX5_vote 0 = .ok (.aload_n 0, 1) := by decide +kernel
theorem dX5_vote_1 : decode cX5_vote 1 = .ok (.iload_n 1, 1) := by decide +kernel
theorem dX5_vote_2 : decode cX5_vote 2 = .ok (.invokevirtual 68, 3) := by decide +kernel
theorem dX5_vote_5 : decode cX5_vote 5 = .ok (.ifCond .eq 11, 3) := by decide +kernel
theorem dX5_vote_8 : decode cX5_vote 8 = .ok (.aload_n 0, 1) := by decide +kernel
theorem dX5_vote_9 : decode cX5_vote 9 = .ok (.iload_n 2, 1) := by decide +kernel
theorem dX5_vote_10 : decode cX5_vote 10 = .ok (.invokevirtual 72, 3) := by decide +kernel
theorem dX5_vote_13 : decode cX5_vote 13 = .ok (.ifCond .ne 6, 3) := by decide +kernel
theorem dX5_vote_16 : decode cX5_vote 16 = .ok (.bipush (-101), 2) := by decide +kernel
theorem dX5_vote_18 : decode cX5_vote 18 = .ok (.ireturn, 1) := by decide +kernel
theorem dX5_vote_19 : decode cX5_vote 19 = .ok (.iload_n 3, 1) := by decide +kernel
theorem dX5_vote_20 : decode cX5_vote 20 = .ok (.bipush (-40), 2) := by decide +kernel
theorem dX5_vote_22 : decode cX5_vote 22 = .ok (.bipush 40, 2) := by decide +kernel
theorem dX5_vote_24 : decode cX5_vote 24 = .ok (.invokestatic 55, 3) := by decide +kernel
theorem dX5_vote_27 : decode cX5_vote 27 = .ok (.ifCond .ne 6, 3) := by decide +kernel
theorem dX5_vote_30 : decode cX5_vote 30 = .ok (.bipush (-102), 2) := by decide +kernel
theorem dX5_vote_32 : decode cX5_vote 32 = .ok (.ireturn, 1) := by decide +kernel
theorem dX5_vote_33 : decode cX5_vote 33 = .ok (.aload_n 0, 1) := by decide +kernel
theorem dX5_vote_34 : decode cX5_vote 34 = .ok (.getfield 17, 3) := by decide +kernel
theorem dX5_vote_37 : decode cX5_vote 37 = .ok (.bipush 6, 2) := by decide +kernel
theorem dX5_vote_39 : decode cX5_vote 39 = .ok (.iload_n 1, 1) := by decide +kernel
theorem dX5_vote_40 : decode cX5_vote 40 = .ok (.imul, 1) := by decide +kernel
theorem dX5_vote_41 : decode cX5_vote 41 = .ok (.iload_n 2, 1) := by decide +kernel
theorem dX5_vote_42 : decode cX5_vote 42 = .ok (.iadd, 1) := by decide +kernel
theorem dX5_vote_43 : decode cX5_vote 43 = .ok (.iaload, 1) := by decide +kernel
theorem dX5_vote_44 : decode cX5_vote 44 = .ok (.istore 4, 2) := by decide +kernel
theorem dX5_vote_46 : decode cX5_vote 46 = .ok (.aload_n 0, 1) := by decide +kernel
theorem dX5_vote_47 : decode cX5_vote 47 = .ok (.iload_n 1, 1) := by decide +kernel
theorem dX5_vote_48 : decode cX5_vote 48 = .ok (.invokevirtual 75, 3) := by decide +kernel
theorem dX5_vote_51 : decode cX5_vote 51 = .ok (.iload 4, 2) := by decide +kernel
theorem dX5_vote_53 : decode cX5_vote 53 = .ok (.iload 4, 2) := by decide +kernel
theorem dX5_vote_55 : decode cX5_vote 55 = .ok (.imul, 1) := by decide +kernel
theorem dX5_vote_56 : decode cX5_vote 56 = .ok (.isub, 1) := by decide +kernel
theorem dX5_vote_57 : decode cX5_vote 57 = .ok (.iload_n 3, 1) := by decide +kernel
theorem dX5_vote_58 : decode cX5_vote 58 = .ok (.iload_n 3, 1) := by decide +kernel
theorem dX5_vote_59 : decode cX5_vote 59 = .ok (.imul, 1) := by decide +kernel
theorem dX5_vote_60 : decode cX5_vote 60 = .ok (.iadd, 1) := by decide +kernel
theorem dX5_vote_61 : decode cX5_vote 61 = .ok (.istore 5, 2) := by decide +kernel
theorem dX5_vote_63 : decode cX5_vote 63 = .ok (.iload 5, 2) := by decide +kernel
theorem dX5_vote_65 : decode cX5_vote 65 = .ok (.aload_n 0, 1) := by decide +kernel
theorem dX5_vote_66 : decode cX5_vote 66 = .ok (.getfield 7, 3) := by decide +kernel
theorem dX5_vote_69 : decode cX5_vote 69 = .ok (.iload_n 1, 1) := by decide +kernel
theorem dX5_vote_70 : decode cX5_vote 70 = .ok (.iaload, 1) := by decide +kernel
theorem dX5_vote_71 : decode cX5_vote 71 = .ok (.if_icmp .le 6, 3) := by decide +kernel
theorem dX5_vote_74 : decode cX5_vote 74 = .ok (.bipush (-103), 2) := by decide +kernel
theorem dX5_vote_76 : decode cX5_vote 76 = .ok (.ireturn, 1) := by decide +kernel
theorem dX5_vote_77 : decode cX5_vote 77 = .ok (.aload_n 0, 1) := by decide +kernel
theorem dX5_vote_78 : decode cX5_vote 78 = .ok (.getfield 17, 3) := by decide +kernel
theorem dX5_vote_81 : decode cX5_vote 81 = .ok (.bipush 6, 2) := by decide +kernel
theorem dX5_vote_83 : decode cX5_vote 83 = .ok (.iload_n 1, 1) := by decide +kernel
theorem dX5_vote_84 : decode cX5_vote 84 = .ok (.imul, 1) := by decide +kernel
theorem dX5_vote_85 : decode cX5_vote 85 = .ok (.iload_n 2, 1) := by decide +kernel
theorem dX5_vote_86 : decode cX5_vote 86 = .ok (.iadd, 1) := by decide +kernel
theorem dX5_vote_87 : decode cX5_vote 87 = .ok (.iload_n 3, 1) := by decide +kernel
theorem dX5_vote_88 : decode cX5_vote 88 = .ok (.iastore, 1) := by decide +kernel
theorem dX5_vote_89 : decode cX5_vote 89 = .ok (.iload 5, 2) := by decide +kernel
theorem dX5_vote_91 : decode cX5_vote 91 = .ok (.ireturn, 1) := by decide +kernel
theorem dX5_worth_0 : decode cX5_worth 0 = .ok (.aload_n 0, 1) := by decide +kernel
theorem dX5_worth_1 : decode cX5_worth 1 = .ok (.iload_n 1, 1) := by decide +kernel
theorem dX5_worth_2 : decode cX5_worth 2 = .ok (.invokevirtual 68, 3) := by decide +kernel
theorem dX5_worth_5 : decode cX5_worth 5 = .ok (.ifCond .eq 11, 3) := by decide +kernel
theorem dX5_worth_8 : decode cX5_worth 8 = .ok (.aload_n 0, 1) := by decide +kernel
theorem dX5_worth_9 : decode cX5_worth 9 = .ok (.iload_n 2, 1) := by decide +kernel
theorem dX5_worth_10 : decode cX5_worth 10 = .ok (.invokevirtual 72, 3) := by decide +kernel
theorem dX5_worth_13 : decode cX5_worth 13 = .ok (.ifCond .ne 6, 3) := by decide +kernel
theorem dX5_worth_16 : decode cX5_worth 16 = .ok (.bipush (-101), 2) := by decide +kernel
theorem dX5_worth_18 : decode cX5_worth 18 = .ok (.ireturn, 1) := by decide +kernel
theorem dX5_worth_19 : decode cX5_worth 19 = .ok (.iload_n 3, 1) := by decide +kernel
theorem dX5_worth_20 : decode cX5_worth 20 = .ok (.sipush (-1000), 3) := by decide +kernel
theorem dX5_worth_23 : decode cX5_worth 23 = .ok (.sipush 1000, 3) := by decide +kernel
theorem dX5_worth_26 : decode cX5_worth 26 = .ok (.invokestatic 55, 3) := by decide +kernel
theorem dX5_worth_29 : decode cX5_worth 29 = .ok (.ifCond .ne 6, 3) := by decide +kernel
theorem dX5_worth_32 : decode cX5_worth 32 = .ok (.bipush (-102), 2) := by decide +kernel
theorem dX5_worth_34 : decode cX5_worth 34 = .ok (.ireturn, 1) := by decide +kernel
theorem dX5_worth_35 : decode cX5_worth 35 = .ok (.aload_n 0, 1) := by decide +kernel
theorem dX5_worth_36 : decode cX5_worth 36 = .ok (.getfield 20, 3) := by decide +kernel
theorem dX5_worth_39 : decode cX5_worth 39 = .ok (.bipush 6, 2) := by decide +kernel
theorem dX5_worth_41 : decode cX5_worth 41 = .ok (.iload_n 1, 1) := by decide +kernel
theorem dX5_worth_42 : decode cX5_worth 42 = .ok (.imul, 1) := by decide +kernel
theorem dX5_worth_43 : decode cX5_worth 43 = .ok (.iload_n 2, 1) := by decide +kernel
theorem dX5_worth_44 : decode cX5_worth 44 = .ok (.iadd, 1) := by decide +kernel
theorem dX5_worth_45 : decode cX5_worth 45 = .ok (.iaload, 1) := by decide +kernel
theorem dX5_worth_46 : decode cX5_worth 46 = .ok (.istore 4, 2) := by decide +kernel
theorem dX5_worth_48 : decode cX5_worth 48 = .ok (.aload_n 0, 1) := by decide +kernel
theorem dX5_worth_49 : decode cX5_worth 49 = .ok (.getfield 20, 3) := by decide +kernel
theorem dX5_worth_52 : decode cX5_worth 52 = .ok (.bipush 6, 2) := by decide +kernel
theorem dX5_worth_54 : decode cX5_worth 54 = .ok (.iload_n 1, 1) := by decide +kernel
theorem dX5_worth_55 : decode cX5_worth 55 = .ok (.imul, 1) := by decide +kernel
theorem dX5_worth_56 : decode cX5_worth 56 = .ok (.iload_n 2, 1) := by decide +kernel
theorem dX5_worth_57 : decode cX5_worth 57 = .ok (.iadd, 1) := by decide +kernel
theorem dX5_worth_58 : decode cX5_worth 58 = .ok (.iload_n 3, 1) := by decide +kernel
theorem dX5_worth_59 : decode cX5_worth 59 = .ok (.iastore, 1) := by decide +kernel
theorem dX5_worth_60 : decode cX5_worth 60 = .ok (.iload 4, 2) := by decide +kernel
theorem dX5_worth_62 : decode cX5_worth 62 = .ok (.ireturn, 1) := by decide +kernel
theorem dX5_here_0 : decode cX5_here 0 = .ok (.aload_n 0, 1) := by decide +kernel
theorem dX5_here_1 : decode cX5_here 1 = .ok (.iload_n 1, 1) := by decide +kernel
theorem dX5_here_2 : decode cX5_here 2 = .ok (.invokevirtual 68, 3) := by decide +kernel
theorem dX5_here_5 : decode cX5_here 5 = .ok (.ifCond .ne 6, 3) := by decide +kernel
theorem dX5_here_8 : decode cX5_here 8 = .ok (.bipush (-101), 2) := by decide +kernel
theorem dX5_here_10 : decode cX5_here 10 = .ok (.ireturn, 1) := by decide +kernel
theorem dX5_here_11 : decode cX5_here 11 = .ok (.aload_n 0, 1) := by decide +kernel
theorem dX5_here_12 : decode cX5_here 12 = .ok (.getfield 13, 3) := by decide +kernel
theorem dX5_here_15 : decode cX5_here 15 = .ok (.iload_n 1, 1) := by decide +kernel
theorem dX5_here_16 : decode cX5_here 16 = .ok (.baload, 1) := by decide +kernel
theorem dX5_here_17 : decode cX5_here 17 = .ok (.ifCond .eq 7, 3) := by decide +kernel
theorem dX5_here_20 : decode cX5_here 20 = .ok (.iconst 1, 1) := by decide +kernel
theorem dX5_here_21 : decode cX5_here 21 = .ok (.goto 4, 3) := by decide +kernel
theorem dX5_here_24 : decode cX5_here 24 = .ok (.iconst 0, 1) := by decide +kernel
theorem dX5_here_25 : decode cX5_here 25 = .ok (.istore_n 3, 1) := by decide +kernel
theorem dX5_here_26 : decode cX5_here 26 = .ok (.aload_n 0, 1) := by decide +kernel
theorem dX5_here_27 : decode cX5_here 27 = .ok (.getfield 13, 3) := by decide +kernel
theorem dX5_here_30 : decode cX5_here 30 = .ok (.iload_n 1, 1) := by decide +kernel
theorem dX5_here_31 : decode cX5_here 31 = .ok (.iload_n 2, 1) := by decide +kernel
theorem dX5_here_32 : decode cX5_here 32 = .ok (.bastore, 1) := by decide +kernel
theorem dX5_here_33 : decode cX5_here 33 = .ok (.iload_n 3, 1) := by decide +kernel
theorem dX5_here_34 : decode cX5_here 34 = .ok (.ireturn, 1) := by decide +kernel
theorem dX5_voices_0 : decode cX5_voices 0 = .ok (.aload_n 0, 1) := by decide +kernel
theorem dX5_voices_1 : decode cX5_voices 1 = .ok (.iload_n 1, 1) := by decide +kernel
theorem dX5_voices_2 : decode cX5_voices 2 = .ok (.invokevirtual 68, 3) := by decide +kernel
theorem dX5_voices_5 : decode cX5_voices 5 = .ok (.ifCond .eq 25, 3) := by decide +kernel
theorem dX5_voices_8 : decode cX5_voices 8 = .ok (.aload_n 0, 1) := by decide +kernel
theorem dX5_voices_9 : decode cX5_voices 9 = .ok (.iload_n 2, 1) := by decide +kernel
theorem dX5_voices_10 : decode cX5_voices 10 = .ok (.invokevirtual 72, 3) := by decide +kernel
theorem dX5_voices_13 : decode cX5_voices 13 = .ok (.ifCond .eq 17, 3) := by decide +kernel
theorem dX5_voices_16 : decode cX5_voices 16 = .ok (.aload_n 0, 1) := by decide +kernel
theorem dX5_voices_17 : decode cX5_voices 17 = .ok (.getfield 17, 3) := by decide +kernel
theorem dX5_voices_20 : decode cX5_voices 20 = .ok (.bipush 6, 2) := by decide +kernel
theorem dX5_voices_22 : decode cX5_voices 22 = .ok (.iload_n 1, 1) := by decide +kernel
theorem dX5_voices_23 : decode cX5_voices 23 = .ok (.imul, 1) := by decide +kernel
theorem dX5_voices_24 : decode cX5_voices 24 = .ok (.iload_n 2, 1) := by decide +kernel
theorem dX5_voices_25 : decode cX5_voices 25 = .ok (.iadd, 1) := by decide +kernel
theorem dX5_voices_26 : decode cX5_voices 26 = .ok (.iaload, 1) := by decide +kernel
theorem dX5_voices_27 : decode cX5_voices 27 = .ok (.goto 6, 3) := by decide +kernel
theorem dX5_voices_30 : decode cX5_voices 30 = .ok (.sipush (-2000), 3) := by decide +kernel
theorem dX5_voices_33 : decode cX5_voices 33 = .ok (.ireturn, 1) := by decide +kernel
theorem dX5_cost_0 : decode cX5_cost 0 = .ok (.aload_n 0, 1) := by decide +kernel
theorem dX5_cost_1 : decode cX5_cost 1 = .ok (.iload_n 1, 1) := by decide +kernel
theorem dX5_cost_2 : decode cX5_cost 2 = .ok (.invokevirtual 68, 3) := by decide +kernel
theorem dX5_cost_5 : decode cX5_cost 5 = .ok (.ifCond .eq 11, 3) := by decide +kernel
theorem dX5_cost_8 : decode cX5_cost 8 = .ok (.aload_n 0, 1) := by decide +kernel
theorem dX5_cost_9 : decode cX5_cost 9 = .ok (.iload_n 1, 1) := by decide +kernel
theorem dX5_cost_10 : decode cX5_cost 10 = .ok (.invokevirtual 75, 3) := by decide +kernel
theorem dX5_cost_13 : decode cX5_cost 13 = .ok (.goto 5, 3) := by decide +kernel
theorem dX5_cost_16 : decode cX5_cost 16 = .ok (.bipush (-101), 2) := by decide +kernel
theorem dX5_cost_18 : decode cX5_cost 18 = .ok (.ireturn, 1) := by decide +kernel
theorem dX5_others_0 : decode cX5_others 0 = .ok (.iconst 0, 1) := by decide +kernel
theorem dX5_others_1 : decode cX5_others 1 = .ok (.istore_n 3, 1) := by decide +kernel
theorem dX5_others_2 : decode cX5_others 2 = .ok (.iconst 0, 1) := by decide +kernel
theorem dX5_others_3 : decode cX5_others 3 = .ok (.istore 4, 2) := by decide +kernel
theorem dX5_others_5 : decode cX5_others 5 = .ok (.iload 4, 2) := by decide +kernel
theorem dX5_others_7 : decode cX5_others 7 = .ok (.aload_n 0, 1) := by decide +kernel
theorem dX5_others_8 : decode cX5_others 8 = .ok (.getfield 51, 3) := by decide +kernel
theorem dX5_others_11 : decode cX5_others 11 = .ok (.if_icmp .ge 44, 3) := by decide +kernel
theorem dX5_others_14 : decode cX5_others 14 = .ok (.iload_n 3, 1) := by decide +kernel
theorem dX5_others_15 : decode cX5_others 15 = .ok (.aload_n 0, 1) := by decide +kernel
theorem dX5_others_16 : decode cX5_others 16 = .ok (.getfield 13, 3) := by decide +kernel
theorem dX5_others_19 : decode cX5_others 19 = .ok (.iload 4, 2) := by decide +kernel
theorem dX5_others_21 : decode cX5_others 21 = .ok (.baload, 1) := by decide +kernel
theorem dX5_others_22 : decode cX5_others 22 = .ok (.ifCond .eq 24, 3) := by decide +kernel
theorem dX5_others_25 : decode cX5_others 25 = .ok (.iload 4, 2) := by decide +kernel
theorem dX5_others_27 : decode cX5_others 27 = .ok (.iload_n 2, 1) := by decide +kernel
theorem dX5_others_28 : decode cX5_others 28 = .ok (.if_icmp .eq 18, 3) := by decide +kernel
theorem dX5_others_31 : decode cX5_others 31 = .ok (.aload_n 0, 1) := by decide +kernel
theorem dX5_others_32 : decode cX5_others 32 = .ok (.getfield 17, 3) := by decide +kernel
theorem dX5_others_35 : decode cX5_others 35 = .ok (.bipush 6, 2) := by decide +kernel
theorem dX5_others_37 : decode cX5_others 37 = .ok (.iload 4, 2) := by decide +kernel
theorem dX5_others_39 : decode cX5_others 39 = .ok (.imul, 1) := by decide +kernel
theorem dX5_others_40 : decode cX5_others 40 = .ok (.iload_n 1, 1) := by decide +kernel
theorem dX5_others_41 : decode cX5_others 41 = .ok (.iadd, 1) := by decide +kernel
theorem dX5_others_42 : decode cX5_others 42 = .ok (.iaload, 1) := by decide +kernel
theorem dX5_others_43 : decode cX5_others 43 = .ok (.goto 4, 3) := by decide +kernel
theorem dX5_others_46 : decode cX5_others 46 = .ok (.iconst 0, 1) := by decide +kernel
theorem dX5_others_47 : decode cX5_others 47 = .ok (.iadd, 1) := by decide +kernel
theorem dX5_others_48 : decode cX5_others 48 = .ok (.istore_n 3, 1) := by decide +kernel
theorem dX5_others_49 : decode cX5_others 49 = .ok (.iinc 4 1, 3) := by decide +kernel
theorem dX5_others_52 : decode cX5_others 52 = .ok (.goto (-47), 3) := by decide +kernel
theorem dX5_others_55 : decode cX5_others 55 = .ok (.iload_n 3, 1) := by decide +kernel
theorem dX5_others_56 : decode cX5_others 56 = .ok (.ireturn, 1) := by decide +kernel
theorem dX5_total_0 : decode cX5_total 0 = .ok (.aload_n 0, 1) := by decide +kernel
theorem dX5_total_1 : decode cX5_total 1 = .ok (.iload_n 1, 1) := by decide +kernel
theorem dX5_total_2 : decode cX5_total 2 = .ok (.invokevirtual 72, 3) := by decide +kernel
theorem dX5_total_5 : decode cX5_total 5 = .ok (.ifCond .eq 12, 3) := by decide +kernel
theorem dX5_total_8 : decode cX5_total 8 = .ok (.aload_n 0, 1) := by decide +kernel
theorem dX5_total_9 : decode cX5_total 9 = .ok (.iload_n 1, 1) := by decide +kernel
theorem dX5_total_10 : decode cX5_total 10 = .ok (.iconst (-1), 1) := by decide +kernel
theorem dX5_total_11 : decode cX5_total 11 = .ok (.invokevirtual 79, 3) := by decide +kernel
theorem dX5_total_14 : decode cX5_total 14 = .ok (.goto 6, 3) := by decide +kernel
theorem dX5_total_17 : decode cX5_total 17 = .ok (.sipush (-2000), 3) := by decide +kernel
theorem dX5_total_20 : decode cX5_total 20 = .ok (.ireturn, 1) := by decide +kernel
theorem dX5_resultOf_0 : decode cX5_resultOf 0 = .ok (.iload_n 2, 1) := by decide +kernel
theorem dX5_resultOf_1 : decode cX5_resultOf 1 = .ok (.ifCond .eq 13, 3) := by decide +kernel
theorem dX5_resultOf_4 : decode cX5_resultOf 4 = .ok (.iload_n 2, 1) := by decide +kernel
theorem dX5_resultOf_5 : decode cX5_resultOf 5 = .ok (.ifCond .le 7, 3) := by decide +kernel
theorem dX5_resultOf_8 : decode cX5_resultOf 8 = .ok (.iconst 1, 1) := by decide +kernel
theorem dX5_resultOf_9 : decode cX5_resultOf 9 = .ok (.goto 4, 3) := by decide +kernel
theorem dX5_resultOf_12 : decode cX5_resultOf 12 = .ok (.iconst (-1), 1) := by decide +kernel
theorem dX5_resultOf_13 : decode cX5_resultOf 13 = .ok (.ireturn, 1) := by decide +kernel
theorem dX5_resultOf_14 : decode cX5_resultOf 14 = .ok (.aload_n 0, 1) := by decide +kernel
theorem dX5_resultOf_15 : decode cX5_resultOf 15 = .ok (.getfield 65, 3) := by decide +kernel
theorem dX5_resultOf_18 : decode cX5_resultOf 18 = .ok (.istore_n 3, 1) := by decide +kernel
theorem dX5_resultOf_19 : decode cX5_resultOf 19 = .ok (.iconst 0, 1) := by decide +kernel
theorem dX5_resultOf_20 : decode cX5_resultOf 20 = .ok (.istore 4, 2) := by decide +kernel
theorem dX5_resultOf_22 : decode cX5_resultOf 22 = .ok (.iload 4, 2) := by decide +kernel
theorem dX5_resultOf_24 : decode cX5_resultOf 24 = .ok (.iload_n 1, 1) := by decide +kernel
theorem dX5_resultOf_25 : decode cX5_resultOf 25 = .ok (.if_icmp .gt 17, 3) := by decide +kernel
theorem dX5_resultOf_28 : decode cX5_resultOf 28 = .ok (.iload_n 3, 1) := by decide +kernel
theorem dX5_resultOf_29 : decode cX5_resultOf 29 = .ok (.ldc 83, 2) := by decide +kernel
theorem dX5_resultOf_31 : decode cX5_resultOf 31 = .ok (.imul, 1) := by decide +kernel
theorem dX5_resultOf_32 : decode cX5_resultOf 32 = .ok (.ldc 84, 2) := by decide +kernel
theorem dX5_resultOf_34 : decode cX5_resultOf 34 = .ok (.iadd, 1) := by decide +kernel
theorem dX5_resultOf_35 : decode cX5_resultOf 35 = .ok (.istore_n 3, 1) := by decide +kernel
theorem dX5_resultOf_36 : decode cX5_resultOf 36 = .ok (.iinc 4 1, 3) := by decide +kernel
theorem dX5_resultOf_39 : decode cX5_resultOf 39 = .ok (.goto (-17), 3) := by decide +kernel
theorem dX5_resultOf_42 : decode cX5_resultOf 42 = .ok (.iload_n 3, 1) := by decide +kernel
theorem dX5_resultOf_43 : decode cX5_resultOf 43 = .ok (.bipush 20, 2) := by decide +kernel
theorem dX5_resultOf_45 : decode cX5_resultOf 45 = .ok (.ishr, 1) := by decide +kernel
theorem dX5_resultOf_46 : decode cX5_resultOf 46 = .ok (.iconst 1, 1) := by decide +kernel
theorem dX5_resultOf_47 : decode cX5_resultOf 47 = .ok (.iand, 1) := by decide +kernel
theorem dX5_resultOf_48 : decode cX5_resultOf 48 = .ok (.iconst 1, 1) := by decide +kernel
theorem dX5_resultOf_49 : decode cX5_resultOf 49 = .ok (.if_icmp .ne 7, 3) := by decide +kernel
theorem dX5_resultOf_52 : decode cX5_resultOf 52 = .ok (.iconst 1, 1) := by decide +kernel
theorem dX5_resultOf_53 : decode cX5_resultOf 53 = .ok (.goto 4, 3) := by decide +kernel
theorem dX5_resultOf_56 : decode cX5_resultOf 56 = .ok (.iconst (-1), 1) := by decide +kernel
theorem dX5_resultOf_57 : decode cX5_resultOf 57 = .ok (.ireturn, 1) := by decide +kernel
theorem dX5_result_0 : decode cX5_result 0 = .ok (.aload_n 0, 1) := by decide +kernel
theorem dX5_result_1 : decode cX5_result 1 = .ok (.iload_n 1, 1) := by decide +kernel
theorem dX5_result_2 : decode cX5_result 2 = .ok (.invokevirtual 72, 3) := by decide +kernel
theorem dX5_result_5 : decode cX5_result 5 = .ok (.ifCond .eq 17, 3) := by decide +kernel
theorem dX5_result_8 : decode cX5_result 8 = .ok (.aload_n 0, 1) := by decide +kernel
theorem dX5_result_9 : decode cX5_result 9 = .ok (.iload_n 1, 1) := by decide +kernel
theorem dX5_result_10 : decode cX5_result 10 = .ok (.aload_n 0, 1) := by decide +kernel
theorem dX5_result_11 : decode cX5_result 11 = .ok (.iload_n 1, 1) := by decide +kernel
theorem dX5_result_12 : decode cX5_result 12 = .ok (.iconst (-1), 1) := by decide +kernel
theorem dX5_result_13 : decode cX5_result 13 = .ok (.invokevirtual 79, 3) := by decide +kernel
theorem dX5_result_16 : decode cX5_result 16 = .ok (.invokevirtual 85, 3) := by decide +kernel
theorem dX5_result_19 : decode cX5_result 19 = .ok (.goto 5, 3) := by decide +kernel
theorem dX5_result_22 : decode cX5_result 22 = .ok (.bipush (-101), 2) := by decide +kernel
theorem dX5_result_24 : decode cX5_result 24 = .ok (.ireturn, 1) := by decide +kernel
theorem dX5_gainBy_0 : decode cX5_gainBy 0 = .ok (.iload_n 1, 1) := by decide +kernel
theorem dX5_gainBy_1 : decode cX5_gainBy 1 = .ok (.ifCond .le 9, 3) := by decide +kernel
theorem dX5_gainBy_4 : decode cX5_gainBy 4 = .ok (.iconst 2, 1) := by decide +kernel
theorem dX5_gainBy_5 : decode cX5_gainBy 5 = .ok (.iload_n 0, 1) := by decide +kernel
theorem dX5_gainBy_6 : decode cX5_gainBy 6 = .ok (.imul, 1) := by decide +kernel
theorem dX5_gainBy_7 : decode cX5_gainBy 7 = .ok (.goto 12, 3) := by decide +kernel
theorem dX5_gainBy_10 : decode cX5_gainBy 10 = .ok (.iload_n 1, 1) := by decide +kernel
theorem dX5_gainBy_11 : decode cX5_gainBy 11 = .ok (.ifCond .ne 7, 3) := by decide +kernel
theorem dX5_gainBy_14 : decode cX5_gainBy 14 = .ok (.iload_n 0, 1) := by decide +kernel
theorem dX5_gainBy_15 : decode cX5_gainBy 15 = .ok (.goto 4, 3) := by decide +kernel
theorem dX5_gainBy_18 : decode cX5_gainBy 18 = .ok (.iconst 0, 1) := by decide +kernel
theorem dX5_gainBy_19 : decode cX5_gainBy 19 = .ok (.ireturn, 1) := by decide +kernel
theorem dX5_gainOf_0 : decode cX5_gainOf 0 = .ok (.iconst 0, 1) := by decide +kernel
theorem dX5_gainOf_1 : decode cX5_gainOf 1 = .ok (.istore_n 2, 1) := by decide +kernel
theorem dX5_gainOf_2 : decode cX5_gainOf 2 = .ok (.iconst 0, 1) := by decide +kernel
theorem dX5_gainOf_3 : decode cX5_gainOf 3 = .ok (.istore_n 3, 1) := by decide +kernel
theorem dX5_gainOf_4 : decode cX5_gainOf 4 = .ok (.iload_n 3, 1) := by decide +kernel
theorem dX5_gainOf_5 : decode cX5_gainOf 5 = .ok (.aload_n 0, 1) := by decide +kernel
theorem dX5_gainOf_6 : decode cX5_gainOf 6 = .ok (.getfield 59, 3) := by decide +kernel
theorem dX5_gainOf_9 : decode cX5_gainOf 9 = .ok (.if_icmp .ge 32, 3) := by decide +kernel
theorem dX5_gainOf_12 : decode cX5_gainOf 12 = .ok (.iload_n 2, 1) := by decide +kernel
theorem dX5_gainOf_13 : decode cX5_gainOf 13 = .ok (.aload_n 0, 1) := by decide +kernel
theorem dX5_gainOf_14 : decode cX5_gainOf 14 = .ok (.getfield 20, 3) := by decide +kernel
theorem dX5_gainOf_17 : decode cX5_gainOf 17 = .ok (.bipush 6, 2) := by decide +kernel
theorem dX5_gainOf_19 : decode cX5_gainOf 19 = .ok (.iload_n 1, 1) := by decide +kernel
theorem dX5_gainOf_20 : decode cX5_gainOf 20 = .ok (.imul, 1) := by decide +kernel
theorem dX5_gainOf_21 : decode cX5_gainOf 21 = .ok (.iload_n 3, 1) := by decide +kernel
theorem dX5_gainOf_22 : decode cX5_gainOf 22 = .ok (.iadd, 1) := by decide +kernel
theorem dX5_gainOf_23 : decode cX5_gainOf 23 = .ok (.iaload, 1) := by decide +kernel
theorem dX5_gainOf_24 : decode cX5_gainOf 24 = .ok (.aload_n 0, 1) := by decide +kernel
theorem dX5_gainOf_25 : decode cX5_gainOf 25 = .ok (.iload_n 3, 1) := by decide +kernel
theorem dX5_gainOf_26 : decode cX5_gainOf 26 = .ok (.iconst (-1), 1) := by decide +kernel
theorem dX5_gainOf_27 : decode cX5_gainOf 27 = .ok (.invokevirtual 79, 3) := by decide +kernel
theorem dX5_gainOf_30 : decode cX5_gainOf 30 = .ok (.invokestatic 88, 3) := by decide +kernel
theorem dX5_gainOf_33 : decode cX5_gainOf 33 = .ok (.iadd, 1) := by decide +kernel
theorem dX5_gainOf_34 : decode cX5_gainOf 34 = .ok (.istore_n 2, 1) := by decide +kernel
theorem dX5_gainOf_35 : decode cX5_gainOf 35 = .ok (.iinc 3 1, 3) := by decide +kernel
theorem dX5_gainOf_38 : decode cX5_gainOf 38 = .ok (.goto (-34), 3) := by decide +kernel
theorem dX5_gainOf_41 : decode cX5_gainOf 41 = .ok (.iload_n 2, 1) := by decide +kernel
theorem dX5_gainOf_42 : decode cX5_gainOf 42 = .ok (.ireturn, 1) := by decide +kernel
theorem dX5_gain_0 : decode cX5_gain 0 = .ok (.aload_n 0, 1) := by decide +kernel
theorem dX5_gain_1 : decode cX5_gain 1 = .ok (.iload_n 1, 1) := by decide +kernel
theorem dX5_gain_2 : decode cX5_gain 2 = .ok (.invokevirtual 68, 3) := by decide +kernel
theorem dX5_gain_5 : decode cX5_gain 5 = .ok (.ifCond .eq 11, 3) := by decide +kernel
theorem dX5_gain_8 : decode cX5_gain 8 = .ok (.aload_n 0, 1) := by decide +kernel
theorem dX5_gain_9 : decode cX5_gain 9 = .ok (.iload_n 1, 1) := by decide +kernel
theorem dX5_gain_10 : decode cX5_gain 10 = .ok (.invokevirtual 91, 3) := by decide +kernel
theorem dX5_gain_13 : decode cX5_gain 13 = .ok (.goto 5, 3) := by decide +kernel
theorem dX5_gain_16 : decode cX5_gain 16 = .ok (.ldc 94, 2) := by decide +kernel
theorem dX5_gain_18 : decode cX5_gain 18 = .ok (.ireturn, 1) := by decide +kernel
theorem dX5_swings_0 : decode cX5_swings 0 = .ok (.aload_n 0, 1) := by decide +kernel
theorem dX5_swings_1 : decode cX5_swings 1 = .ok (.iload_n 1, 1) := by decide +kernel
theorem dX5_swings_2 : decode cX5_swings 2 = .ok (.invokevirtual 68, 3) := by decide +kernel
theorem dX5_swings_5 : decode cX5_swings 5 = .ok (.ifCond .ne 6, 3) := by decide +kernel
theorem dX5_swings_8 : decode cX5_swings 8 = .ok (.bipush (-101), 2) := by decide +kernel
theorem dX5_swings_10 : decode cX5_swings 10 = .ok (.ireturn, 1) := by decide +kernel
theorem dX5_swings_11 : decode cX5_swings 11 = .ok (.iconst 0, 1) := by decide +kernel
theorem dX5_swings_12 : decode cX5_swings 12 = .ok (.istore_n 2, 1) := by decide +kernel
theorem dX5_swings_13 : decode cX5_swings 13 = .ok (.iconst 0, 1) := by decide +kernel
theorem dX5_swings_14 : decode cX5_swings 14 = .ok (.istore_n 3, 1) := by decide +kernel
theorem dX5_swings_15 : decode cX5_swings 15 = .ok (.iload_n 3, 1) := by decide +kernel
theorem dX5_swings_16 : decode cX5_swings 16 = .ok (.aload_n 0, 1) := by decide +kernel
theorem dX5_swings_17 : decode cX5_swings 17 = .ok (.getfield 59, 3) := by decide +kernel
theorem dX5_swings_20 : decode cX5_swings 20 = .ok (.if_icmp .ge 56, 3) := by decide +kernel
theorem dX5_swings_23 : decode cX5_swings 23 = .ok (.aload_n 0, 1) := by decide +kernel
theorem dX5_swings_24 : decode cX5_swings 24 = .ok (.iload_n 3, 1) := by decide +kernel
theorem dX5_swings_25 : decode cX5_swings 25 = .ok (.iload_n 1, 1) := by decide +kernel
theorem dX5_swings_26 : decode cX5_swings 26 = .ok (.invokevirtual 79, 3) := by decide +kernel
theorem dX5_swings_29 : decode cX5_swings 29 = .ok (.istore 4, 2) := by decide +kernel
theorem dX5_swings_31 : decode cX5_swings 31 = .ok (.iload_n 2, 1) := by decide +kernel
theorem dX5_swings_32 : decode cX5_swings 32 = .ok (.aload_n 0, 1) := by decide +kernel
theorem dX5_swings_33 : decode cX5_swings 33 = .ok (.iload_n 3, 1) := by decide +kernel
theorem dX5_swings_34 : decode cX5_swings 34 = .ok (.iload 4, 2) := by decide +kernel
theorem dX5_swings_36 : decode cX5_swings 36 = .ok (.invokevirtual 85, 3) := by decide +kernel
theorem dX5_swings_39 : decode cX5_swings 39 = .ok (.aload_n 0, 1) := by decide +kernel
theorem dX5_swings_40 : decode cX5_swings 40 = .ok (.iload_n 3, 1) := by decide +kernel
theorem dX5_swings_41 : decode cX5_swings 41 = .ok (.iload 4, 2) := by decide +kernel
theorem dX5_swings_43 : decode cX5_swings 43 = .ok (.aload_n 0, 1) := by decide +kernel
theorem dX5_swings_44 : decode cX5_swings 44 = .ok (.getfield 17, 3) := by decide +kernel
theorem dX5_swings_47 : decode cX5_swings 47 = .ok (.bipush 6, 2) := by decide +kernel
theorem dX5_swings_49 : decode cX5_swings 49 = .ok (.iload_n 1, 1) := by decide +kernel
theorem dX5_swings_50 : decode cX5_swings 50 = .ok (.imul, 1) := by decide +kernel
theorem dX5_swings_51 : decode cX5_swings 51 = .ok (.iload_n 3, 1) := by decide +kernel
theorem dX5_swings_52 : decode cX5_swings 52 = .ok (.iadd, 1) := by decide +kernel
theorem dX5_swings_53 : decode cX5_swings 53 = .ok (.iaload, 1) := by decide +kernel
theorem dX5_swings_54 : decode cX5_swings 54 = .ok (.iadd, 1) := by decide +kernel
theorem dX5_swings_55 : decode cX5_swings 55 = .ok (.invokevirtual 85, 3) := by decide +kernel
theorem dX5_swings_58 : decode cX5_swings 58 = .ok (.if_icmp .eq 9, 3) := by decide +kernel
theorem dX5_swings_61 : decode cX5_swings 61 = .ok (.iconst 1, 1) := by decide +kernel
theorem dX5_swings_62 : decode cX5_swings 62 = .ok (.iload_n 3, 1) := by decide +kernel
theorem dX5_swings_63 : decode cX5_swings 63 = .ok (.ishl, 1) := by decide +kernel
theorem dX5_swings_64 : decode cX5_swings 64 = .ok (.goto 4, 3) := by decide +kernel
theorem dX5_swings_67 : decode cX5_swings 67 = .ok (.iconst 0, 1) := by decide +kernel
theorem dX5_swings_68 : decode cX5_swings 68 = .ok (.ior, 1) := by decide +kernel
theorem dX5_swings_69 : decode cX5_swings 69 = .ok (.istore_n 2, 1) := by decide +kernel
theorem dX5_swings_70 : decode cX5_swings 70 = .ok (.iinc 3 1, 3) := by decide +kernel
theorem dX5_swings_73 : decode cX5_swings 73 = .ok (.goto (-58), 3) := by decide +kernel
theorem dX5_swings_76 : decode cX5_swings 76 = .ok (.iload_n 2, 1) := by decide +kernel
theorem dX5_swings_77 : decode cX5_swings 77 = .ok (.ireturn, 1) := by decide +kernel
theorem dX5_end_0 : decode cX5_end 0 = .ok (.aload_n 0, 1) := by decide +kernel
theorem dX5_end_1 : decode cX5_end 1 = .ok (.getfield 29, 3) := by decide +kernel
theorem dX5_end_4 : decode cX5_end 4 = .ok (.iload_n 1, 1) := by decide +kernel
theorem dX5_end_5 : decode cX5_end 5 = .ok (.iload_n 2, 1) := by decide +kernel
theorem dX5_end_6 : decode cX5_end 6 = .ok (.iastore, 1) := by decide +kernel
theorem dX5_end_7 : decode cX5_end 7 = .ok (.aload_n 0, 1) := by decide +kernel
theorem dX5_end_8 : decode cX5_end 8 = .ok (.getfield 32, 3) := by decide +kernel
theorem dX5_end_11 : decode cX5_end 11 = .ok (.iload_n 1, 1) := by decide +kernel
theorem dX5_end_12 : decode cX5_end 12 = .ok (.iload_n 2, 1) := by decide +kernel
theorem dX5_end_13 : decode cX5_end 13 = .ok (.bipush (-40), 2) := by decide +kernel
theorem dX5_end_15 : decode cX5_end 15 = .ok (.bipush 40, 2) := by decide +kernel
theorem dX5_end_17 : decode cX5_end 17 = .ok (.invokestatic 55, 3) := by decide +kernel
theorem dX5_end_20 : decode cX5_end 20 = .ok (.bastore, 1) := by decide +kernel
theorem dX5_end_21 : decode cX5_end 21 = .ok (.return_, 1) := by decide +kernel
theorem dX5_isBetter_0 : decode cX5_isBetter 0 = .ok (.aload_n 0, 1) := by decide +kernel
theorem dX5_isBetter_1 : decode cX5_isBetter 1 = .ok (.getfield 95, 3) := by decide +kernel
theorem dX5_isBetter_4 : decode cX5_isBetter 4 = .ok (.ifCond .eq 11, 3) := by decide +kernel
theorem dX5_isBetter_7 : decode cX5_isBetter 7 = .ok (.iload_n 1, 1) := by decide +kernel
theorem dX5_isBetter_8 : decode cX5_isBetter 8 = .ok (.aload_n 0, 1) := by decide +kernel
theorem dX5_isBetter_9 : decode cX5_isBetter 9 = .ok (.getfield 99, 3) := by decide +kernel
theorem dX5_isBetter_12 : decode cX5_isBetter 12 = .ok (.if_icmp .eq 24, 3) := by decide +kernel
theorem dX5_isBetter_15 : decode cX5_isBetter 15 = .ok (.aload_n 0, 1) := by decide +kernel
theorem dX5_isBetter_16 : decode cX5_isBetter 16 = .ok (.getfield 95, 3) := by decide +kernel
theorem dX5_isBetter_19 : decode cX5_isBetter 19 = .ok (.ifCond .eq 11, 3) := by decide +kernel
theorem dX5_isBetter_22 : decode cX5_isBetter 22 = .ok (.iload_n 1, 1) := by decide +kernel
theorem dX5_isBetter_23 : decode cX5_isBetter 23 = .ok (.aload_n 0, 1) := by decide +kernel
theorem dX5_isBetter_24 : decode cX5_isBetter 24 = .ok (.getfield 99, 3) := by decide +kernel
theorem dX5_isBetter_27 : decode cX5_isBetter 27 = .ok (.if_icmp .le 7, 3) := by decide +kernel
theorem dX5_isBetter_30 : decode cX5_isBetter 30 = .ok (.iconst 1, 1) := by decide +kernel
theorem dX5_isBetter_31 : decode cX5_isBetter 31 = .ok (.goto 4, 3) := by decide +kernel
theorem dX5_isBetter_34 : decode cX5_isBetter 34 = .ok (.iconst 0, 1) := by decide +kernel
theorem dX5_isBetter_35 : decode cX5_isBetter 35 = .ok (.ireturn, 1) := by decide +kernel
theorem dX5_isBetter_36 : decode cX5_isBetter 36 = .ok (.iload_n 2, 1) := by decide +kernel
theorem dX5_isBetter_37 : decode cX5_isBetter 37 = .ok (.aload_n 0, 1) := by decide +kernel
theorem dX5_isBetter_38 : decode cX5_isBetter 38 = .ok (.getfield 102, 3) := by decide +kernel
theorem dX5_isBetter_41 : decode cX5_isBetter 41 = .ok (.if_icmp .eq 17, 3) := by decide +kernel
theorem dX5_isBetter_44 : decode cX5_isBetter 44 = .ok (.iload_n 2, 1) := by decide +kernel
theorem dX5_isBetter_45 : decode cX5_isBetter 45 = .ok (.aload_n 0, 1) := by decide +kernel
theorem dX5_isBetter_46 : decode cX5_isBetter 46 = .ok (.getfield 102, 3) := by decide +kernel
theorem dX5_isBetter_49 : decode cX5_isBetter 49 = .ok (.if_icmp .ge 7, 3) := by decide +kernel
theorem dX5_isBetter_52 : decode cX5_isBetter 52 = .ok (.iconst 1, 1) := by decide +kernel
theorem dX5_isBetter_53 : decode cX5_isBetter 53 = .ok (.goto 4, 3) := by decide +kernel
theorem dX5_isBetter_56 : decode cX5_isBetter 56 = .ok (.iconst 0, 1) := by decide +kernel
theorem dX5_isBetter_57 : decode cX5_isBetter 57 = .ok (.ireturn, 1) := by decide +kernel
theorem dX5_isBetter_58 : decode cX5_isBetter 58 = .ok (.iconst 0, 1) := by decide +kernel
theorem dX5_isBetter_59 : decode cX5_isBetter 59 = .ok (.istore_n 3, 1) := by decide +kernel
theorem dX5_isBetter_60 : decode cX5_isBetter 60 = .ok (.iload_n 3, 1) := by decide +kernel
theorem dX5_isBetter_61 : decode cX5_isBetter 61 = .ok (.aload_n 0, 1) := by decide +kernel
theorem dX5_isBetter_62 : decode cX5_isBetter 62 = .ok (.getfield 59, 3) := by decide +kernel
theorem dX5_isBetter_65 : decode cX5_isBetter 65 = .ok (.if_icmp .ge 45, 3) := by decide +kernel
theorem dX5_isBetter_68 : decode cX5_isBetter 68 = .ok (.aload_n 0, 1) := by decide +kernel
theorem dX5_isBetter_69 : decode cX5_isBetter 69 = .ok (.getfield 38, 3) := by decide +kernel
theorem dX5_isBetter_72 : decode cX5_isBetter 72 = .ok (.iload_n 3, 1) := by decide +kernel
theorem dX5_isBetter_73 : decode cX5_isBetter 73 = .ok (.iaload, 1) := by decide +kernel
theorem dX5_isBetter_74 : decode cX5_isBetter 74 = .ok (.aload_n 0, 1) := by decide +kernel
theorem dX5_isBetter_75 : decode cX5_isBetter 75 = .ok (.getfield 35, 3) := by decide +kernel
theorem dX5_isBetter_78 : decode cX5_isBetter 78 = .ok (.iload_n 3, 1) := by decide +kernel
theorem dX5_isBetter_79 : decode cX5_isBetter 79 = .ok (.iaload, 1) := by decide +kernel
theorem dX5_isBetter_80 : decode cX5_isBetter 80 = .ok (.if_icmp .eq 24, 3) := by decide +kernel
theorem dX5_isBetter_83 : decode cX5_isBetter 83 = .ok (.aload_n 0, 1) := by decide +kernel
theorem dX5_isBetter_84 : decode cX5_isBetter 84 = .ok (.getfield 38, 3) := by decide +kernel
theorem dX5_isBetter_87 : decode cX5_isBetter 87 = .ok (.iload_n 3, 1) := by decide +kernel
theorem dX5_isBetter_88 : decode cX5_isBetter 88 = .ok (.iaload, 1) := by decide +kernel
theorem dX5_isBetter_89 : decode cX5_isBetter 89 = .ok (.aload_n 0, 1) := by decide +kernel
theorem dX5_isBetter_90 : decode cX5_isBetter 90 = .ok (.getfield 35, 3) := by decide +kernel
theorem dX5_isBetter_93 : decode cX5_isBetter 93 = .ok (.iload_n 3, 1) := by decide +kernel
theorem dX5_isBetter_94 : decode cX5_isBetter 94 = .ok (.iaload, 1) := by decide +kernel
theorem dX5_isBetter_95 : decode cX5_isBetter 95 = .ok (.if_icmp .ge 7, 3) := by decide +kernel
theorem dX5_isBetter_98 : decode cX5_isBetter 98 = .ok (.iconst 1, 1) := by decide +kernel
theorem dX5_isBetter_99 : decode cX5_isBetter 99 = .ok (.goto 4, 3) := by decide +kernel
theorem dX5_isBetter_102 : decode cX5_isBetter 102 = .ok (.iconst 0, 1) := by decide +kernel
theorem dX5_isBetter_103 : decode cX5_isBetter 103 = .ok (.ireturn, 1) := by decide +kernel
theorem dX5_isBetter_104 : decode cX5_isBetter 104 = .ok (.iinc 3 1, 3) := by decide +kernel
theorem dX5_isBetter_107 : decode cX5_isBetter 107 = .ok (.goto (-47), 3) := by decide +kernel
theorem dX5_isBetter_110 : decode cX5_isBetter 110 = .ok (.iconst 0, 1) := by decide +kernel
theorem dX5_isBetter_111 : decode cX5_isBetter 111 = .ok (.ireturn, 1) := by decide +kernel
theorem dX5_find_0 : decode cX5_find 0 = .ok (.iconst 1, 1) := by decide +kernel
theorem dX5_find_1 : decode cX5_find 1 = .ok (.istore_n 2, 1) := by decide +kernel
theorem dX5_find_2 : decode cX5_find 2 = .ok (.iconst 0, 1) := by decide +kernel
theorem dX5_find_3 : decode cX5_find 3 = .ok (.istore_n 3, 1) := by decide +kernel
theorem dX5_find_4 : decode cX5_find 4 = .ok (.iload_n 3, 1) := by decide +kernel
theorem dX5_find_5 : decode cX5_find 5 = .ok (.aload_n 0, 1) := by decide +kernel
theorem dX5_find_6 : decode cX5_find 6 = .ok (.getfield 59, 3) := by decide +kernel
theorem dX5_find_9 : decode cX5_find 9 = .ok (.if_icmp .ge 75, 3) := by decide +kernel
theorem dX5_find_12 : decode cX5_find 12 = .ok (.aload_n 0, 1) := by decide +kernel
theorem dX5_find_13 : decode cX5_find 13 = .ok (.iload_n 3, 1) := by decide +kernel
theorem dX5_find_14 : decode cX5_find 14 = .ok (.iload_n 1, 1) := by decide +kernel
theorem dX5_find_15 : decode cX5_find 15 = .ok (.invokevirtual 79, 3) := by decide +kernel
theorem dX5_find_18 : decode cX5_find 18 = .ok (.istore 4, 2) := by decide +kernel
theorem dX5_find_20 : decode cX5_find 20 = .ok (.aload_n 0, 1) := by decide +kernel
theorem dX5_find_21 : decode cX5_find 21 = .ok (.iconst 3, 1) := by decide +kernel
theorem dX5_find_22 : decode cX5_find 22 = .ok (.iload_n 3, 1) := by decide +kernel
theorem dX5_find_23 : decode cX5_find 23 = .ok (.imul, 1) := by decide +kernel
theorem dX5_find_24 : decode cX5_find 24 = .ok (.iload 4, 2) := by decide +kernel
theorem dX5_find_26 : decode cX5_find 26 = .ok (.ifCond .le 7, 3) := by decide +kernel
theorem dX5_find_29 : decode cX5_find 29 = .ok (.iconst 0, 1) := by decide +kernel
theorem dX5_find_30 : decode cX5_find 30 = .ok (.goto 7, 3) := by decide +kernel
theorem dX5_find_33 : decode cX5_find 33 = .ok (.iconst 1, 1) := by decide +kernel
theorem dX5_find_34 : decode cX5_find 34 = .ok (.iload 4, 2) := by decide +kernel
theorem dX5_find_36 : decode cX5_find 36 = .ok (.isub, 1) := by decide +kernel
theorem dX5_find_37 : decode cX5_find 37 = .ok (.invokevirtual 105, 3) := by decide +kernel
theorem dX5_find_40 : decode cX5_find 40 = .ok (.aload_n 0, 1) := by decide +kernel
theorem dX5_find_41 : decode cX5_find 41 = .ok (.iconst 3, 1) := by decide +kernel
theorem dX5_find_42 : decode cX5_find 42 = .ok (.iload_n 3, 1) := by decide +kernel
theorem dX5_find_43 : decode cX5_find 43 = .ok (.imul, 1) := by decide +kernel
theorem dX5_find_44 : decode cX5_find 44 = .ok (.iconst 1, 1) := by decide +kernel
theorem dX5_find_45 : decode cX5_find 45 = .ok (.iadd, 1) := by decide +kernel
theorem dX5_find_46 : decode cX5_find 46 = .ok (.iload 4, 2) := by decide +kernel
theorem dX5_find_48 : decode cX5_find 48 = .ok (.ineg, 1) := by decide +kernel
theorem dX5_find_49 : decode cX5_find 49 = .ok (.invokevirtual 105, 3) := by decide +kernel
theorem dX5_find_52 : decode cX5_find 52 = .ok (.aload_n 0, 1) := by decide +kernel
theorem dX5_find_53 : decode cX5_find 53 = .ok (.iconst 3, 1) := by decide +kernel
theorem dX5_find_54 : decode cX5_find 54 = .ok (.iload_n 3, 1) := by decide +kernel
theorem dX5_find_55 : decode cX5_find 55 = .ok (.imul, 1) := by decide +kernel
theorem dX5_find_56 : decode cX5_find 56 = .ok (.iconst 2, 1) := by decide +kernel
theorem dX5_find_57 : decode cX5_find 57 = .ok (.iadd, 1) := by decide +kernel
theorem dX5_find_58 : decode cX5_find 58 = .ok (.iload 4, 2) := by decide +kernel
theorem dX5_find_60 : decode cX5_find 60 = .ok (.ifCond .ge 7, 3) := by decide +kernel
theorem dX5_find_63 : decode cX5_find 63 = .ok (.iconst 0, 1) := by decide +kernel
theorem dX5_find_64 : decode cX5_find 64 = .ok (.goto 7, 3) := by decide +kernel
theorem dX5_find_67 : decode cX5_find 67 = .ok (.iconst (-1), 1) := by decide +kernel
theorem dX5_find_68 : decode cX5_find 68 = .ok (.iload 4, 2) := by decide +kernel
theorem dX5_find_70 : decode cX5_find 70 = .ok (.isub, 1) := by decide +kernel
theorem dX5_find_71 : decode cX5_find 71 = .ok (.invokevirtual 105, 3) := by decide +kernel
theorem dX5_find_74 : decode cX5_find 74 = .ok (.iload_n 2, 1) := by decide +kernel
theorem dX5_find_75 : decode cX5_find 75 = .ok (.iconst 3, 1) := by decide +kernel
theorem dX5_find_76 : decode cX5_find 76 = .ok (.imul, 1) := by decide +kernel
theorem dX5_find_77 : decode cX5_find 77 = .ok (.istore_n 2, 1) := by decide +kernel
theorem dX5_find_78 : decode cX5_find 78 = .ok (.iinc 3 1, 3) := by decide +kernel
theorem dX5_find_81 : decode cX5_find 81 = .ok (.goto (-77), 3) := by decide +kernel
theorem dX5_find_84 : decode cX5_find 84 = .ok (.aload_n 0, 1) := by decide +kernel
theorem dX5_find_85 : decode cX5_find 85 = .ok (.iconst 0, 1) := by decide +kernel
theorem dX5_find_86 : decode cX5_find 86 = .ok (.putfield 95, 3) := by decide +kernel
theorem dX5_find_89 : decode cX5_find 89 = .ok (.iconst 0, 1) := by decide +kernel
theorem dX5_find_90 : decode cX5_find 90 = .ok (.istore_n 3, 1) := by decide +kernel
theorem dX5_find_91 : decode cX5_find 91 = .ok (.iload_n 3, 1) := by decide +kernel
theorem dX5_find_92 : decode cX5_find 92 = .ok (.iload_n 2, 1) := by decide +kernel
theorem dX5_find_93 : decode cX5_find 93 = .ok (.if_icmp .ge 245, 3) := by decide +kernel
theorem dX5_find_96 : decode cX5_find 96 = .ok (.iload_n 3, 1) := by decide +kernel
theorem dX5_find_97 : decode cX5_find 97 = .ok (.istore 4, 2) := by decide +kernel
theorem dX5_find_99 : decode cX5_find 99 = .ok (.iconst 0, 1) := by decide +kernel
theorem dX5_find_100 : decode cX5_find 100 = .ok (.istore 5, 2) := by decide +kernel
theorem dX5_find_102 : decode cX5_find 102 = .ok (.iconst 0, 1) := by decide +kernel
theorem dX5_find_103 : decode cX5_find 103 = .ok (.istore 6, 2) := by decide +kernel
theorem dX5_find_105 : decode cX5_find 105 = .ok (.iconst 1, 1) := by decide +kernel
theorem dX5_find_106 : decode cX5_find 106 = .ok (.istore 7, 2) := by decide +kernel
theorem dX5_find_108 : decode cX5_find 108 = .ok (.iconst 0, 1) := by decide +kernel
theorem dX5_find_109 : decode cX5_find 109 = .ok (.istore 8, 2) := by decide +kernel
theorem dX5_find_111 : decode cX5_find 111 = .ok (.iload 8, 2) := by decide +kernel
theorem dX5_find_113 : decode cX5_find 113 = .ok (.aload_n 0, 1) := by decide +kernel
theorem dX5_find_114 : decode cX5_find 114 = .ok (.getfield 59, 3) := by decide +kernel
theorem dX5_find_117 : decode cX5_find 117 = .ok (.if_icmp .ge 139, 3) := by decide +kernel
theorem dX5_find_120 : decode cX5_find 120 = .ok (.iload 4, 2) := by decide +kernel
theorem dX5_find_122 : decode cX5_find 122 = .ok (.iconst 3, 1) := by decide +kernel
theorem dX5_find_123 : decode cX5_find 123 = .ok (.irem, 1) := by decide +kernel
theorem dX5_find_124 : decode cX5_find 124 = .ok (.istore 9, 2) := by decide +kernel
theorem dX5_find_126 : decode cX5_find 126 = .ok (.iload 4, 2) := by decide +kernel
theorem dX5_find_128 : decode cX5_find 128 = .ok (.iconst 3, 1) := by decide +kernel
theorem dX5_find_129 : decode cX5_find 129 = .ok (.idiv, 1) := by decide +kernel
theorem dX5_find_130 : decode cX5_find 130 = .ok (.istore 4, 2) := by decide +kernel
theorem dX5_find_132 : decode cX5_find 132 = .ok (.aload_n 0, 1) := by decide +kernel
theorem dX5_find_133 : decode cX5_find 133 = .ok (.getfield 29, 3) := by decide +kernel
theorem dX5_find_136 : decode cX5_find 136 = .ok (.iconst 3, 1) := by decide +kernel
theorem dX5_find_137 : decode cX5_find 137 = .ok (.iload 8, 2) := by decide +kernel
theorem dX5_find_139 : decode cX5_find 139 = .ok (.imul, 1) := by decide +kernel
theorem dX5_find_140 : decode cX5_find 140 = .ok (.iload 9, 2) := by decide +kernel
theorem dX5_find_142 : decode cX5_find 142 = .ok (.iadd, 1) := by decide +kernel
theorem dX5_find_143 : decode cX5_find 143 = .ok (.iaload, 1) := by decide +kernel
theorem dX5_find_144 : decode cX5_find 144 = .ok (.istore 10, 2) := by decide +kernel
theorem dX5_find_146 : decode cX5_find 146 = .ok (.iload 7, 2) := by decide +kernel
theorem dX5_find_148 : decode cX5_find 148 = .ok (.ifCond .eq 22, 3) := by decide +kernel
theorem dX5_find_151 : decode cX5_find 151 = .ok (.aload_n 0, 1) := by decide +kernel
theorem dX5_find_152 : decode cX5_find 152 = .ok (.getfield 32, 3) := by decide +kernel
theorem dX5_find_155 : decode cX5_find 155 = .ok (.iconst 3, 1) := by decide +kernel
theorem dX5_find_156 : decode cX5_find 156 = .ok (.iload 8, 2) := by decide +kernel
theorem dX5_find_158 : decode cX5_find 158 = .ok (.imul, 1) := by decide +kernel
theorem dX5_find_159 : decode cX5_find 159 = .ok (.iload 9, 2) := by decide +kernel
theorem dX5_find_161 : decode cX5_find 161 = .ok (.iadd, 1) := by decide +kernel
theorem dX5_find_162 : decode cX5_find 162 = .ok (.baload, 1) := by decide +kernel
theorem dX5_find_163 : decode cX5_find 163 = .ok (.ifCond .eq 7, 3) := by decide +kernel
theorem dX5_find_166 : decode cX5_find 166 = .ok (.iconst 1, 1) := by decide +kernel
theorem dX5_find_167 : decode cX5_find 167 = .ok (.goto 4, 3) := by decide +kernel
theorem dX5_find_170 : decode cX5_find 170 = .ok (.iconst 0, 1) := by decide +kernel
theorem dX5_find_171 : decode cX5_find 171 = .ok (.istore 7, 2) := by decide +kernel
theorem dX5_find_173 : decode cX5_find 173 = .ok (.aload_n 0, 1) := by decide +kernel
theorem dX5_find_174 : decode cX5_find 174 = .ok (.getfield 38, 3) := by decide +kernel
theorem dX5_find_177 : decode cX5_find 177 = .ok (.iload 8, 2) := by decide +kernel
theorem dX5_find_179 : decode cX5_find 179 = .ok (.iload 10, 2) := by decide +kernel
theorem dX5_find_181 : decode cX5_find 181 = .ok (.iastore, 1) := by decide +kernel
theorem dX5_find_182 : decode cX5_find 182 = .ok (.iload 6, 2) := by decide +kernel
theorem dX5_find_184 : decode cX5_find 184 = .ok (.iload 7, 2) := by decide +kernel
theorem dX5_find_186 : decode cX5_find 186 = .ok (.ifCond .eq 11, 3) := by decide +kernel
theorem dX5_find_189 : decode cX5_find 189 = .ok (.iload 10, 2) := by decide +kernel
theorem dX5_find_191 : decode cX5_find 191 = .ok (.iload 10, 2) := by decide +kernel
theorem dX5_find_193 : decode cX5_find 193 = .ok (.imul, 1) := by decide +kernel
theorem dX5_find_194 : decode cX5_find 194 = .ok (.goto 4, 3) := by decide +kernel
theorem dX5_find_197 : decode cX5_find 197 = .ok (.iconst 0, 1) := by decide +kernel
theorem dX5_find_198 : decode cX5_find 198 = .ok (.iadd, 1) := by decide +kernel
theorem dX5_find_199 : decode cX5_find 199 = .ok (.istore 6, 2) := by decide +kernel
theorem dX5_find_201 : decode cX5_find 201 = .ok (.iload 5, 2) := by decide +kernel
theorem dX5_find_203 : decode cX5_find 203 = .ok (.iload 9, 2) := by decide +kernel
theorem dX5_find_205 : decode cX5_find 205 = .ok (.ifCond .ne 20, 3) := by decide +kernel
theorem dX5_find_208 : decode cX5_find 208 = .ok (.iconst 2, 1) := by decide +kernel
theorem dX5_find_209 : decode cX5_find 209 = .ok (.aload_n 0, 1) := by decide +kernel
theorem dX5_find_210 : decode cX5_find 210 = .ok (.getfield 20, 3) := by decide +kernel
theorem dX5_find_213 : decode cX5_find 213 = .ok (.bipush 6, 2) := by decide +kernel
theorem dX5_find_215 : decode cX5_find 215 = .ok (.iload_n 1, 1) := by decide +kernel
theorem dX5_find_216 : decode cX5_find 216 = .ok (.imul, 1) := by decide +kernel
theorem dX5_find_217 : decode cX5_find 217 = .ok (.iload 8, 2) := by decide +kernel
theorem dX5_find_219 : decode cX5_find 219 = .ok (.iadd, 1) := by decide +kernel
theorem dX5_find_220 : decode cX5_find 220 = .ok (.iaload, 1) := by decide +kernel
theorem dX5_find_221 : decode cX5_find 221 = .ok (.imul, 1) := by decide +kernel
theorem dX5_find_222 : decode cX5_find 222 = .ok (.goto 25, 3) := by decide +kernel
theorem dX5_find_225 : decode cX5_find 225 = .ok (.iload 9, 2) := by decide +kernel
theorem dX5_find_227 : decode cX5_find 227 = .ok (.iconst 1, 1) := by decide +kernel
theorem dX5_find_228 : decode cX5_find 228 = .ok (.if_icmp .ne 18, 3) := by decide +kernel
theorem dX5_find_231 : decode cX5_find 231 = .ok (.aload_n 0, 1) := by decide +kernel
theorem dX5_find_232 : decode cX5_find 232 = .ok (.getfield 20, 3) := by decide +kernel
theorem dX5_find_235 : decode cX5_find 235 = .ok (.bipush 6, 2) := by decide +kernel
theorem dX5_find_237 : decode cX5_find 237 = .ok (.iload_n 1, 1) := by decide +kernel
theorem dX5_find_238 : decode cX5_find 238 = .ok (.imul, 1) := by decide +kernel
theorem dX5_find_239 : decode cX5_find 239 = .ok (.iload 8, 2) := by decide +kernel
theorem dX5_find_241 : decode cX5_find 241 = .ok (.iadd, 1) := by decide +kernel
theorem dX5_find_242 : decode cX5_find 242 = .ok (.iaload, 1) := by decide +kernel
theorem dX5_find_243 : decode cX5_find 243 = .ok (.goto 4, 3) := by decide +kernel
theorem dX5_find_246 : decode cX5_find 246 = .ok (.iconst 0, 1) := by decide +kernel
theorem dX5_find_247 : decode cX5_find 247 = .ok (.iadd, 1) := by decide +kernel
theorem dX5_find_248 : decode cX5_find 248 = .ok (.istore 5, 2) := by decide +kernel
theorem dX5_find_250 : decode cX5_find 250 = .ok (.iinc 8 1, 3) := by decide +kernel
theorem dX5_find_253 : decode cX5_find 253 = .ok (.goto (-142), 3) := by decide +kernel
theorem dX5_find_256 : decode cX5_find 256 = .ok (.iload 7, 2) := by decide +kernel
theorem dX5_find_258 : decode cX5_find 258 = .ok (.ifCond .eq 74, 3) := by decide +kernel
theorem dX5_find_261 : decode cX5_find 261 = .ok (.iload 6, 2) := by decide +kernel
theorem dX5_find_263 : decode cX5_find 263 = .ok (.aload_n 0, 1) := by decide +kernel
theorem dX5_find_264 : decode cX5_find 264 = .ok (.getfield 7, 3) := by decide +kernel
theorem dX5_find_267 : decode cX5_find 267 = .ok (.iload_n 1, 1) := by decide +kernel
theorem dX5_find_268 : decode cX5_find 268 = .ok (.iaload, 1) := by decide +kernel
theorem dX5_find_269 : decode cX5_find 269 = .ok (.if_icmp .gt 63, 3) := by decide +kernel
theorem dX5_find_272 : decode cX5_find 272 = .ok (.aload_n 0, 1) := by decide +kernel
theorem dX5_find_273 : decode cX5_find 273 = .ok (.iload 5, 2) := by decide +kernel
theorem dX5_find_275 : decode cX5_find 275 = .ok (.iload 6, 2) := by decide +kernel
theorem dX5_find_277 : decode cX5_find 277 = .ok (.invokevirtual 109, 3) := by decide +kernel
theorem dX5_find_280 : decode cX5_find 280 = .ok (.ifCond .eq 52, 3) := by decide +kernel
theorem dX5_find_283 : decode cX5_find 283 = .ok (.aload_n 0, 1) := by decide +kernel
theorem dX5_find_284 : decode cX5_find 284 = .ok (.iconst 1, 1) := by decide +kernel
theorem dX5_find_285 : decode cX5_find 285 = .ok (.putfield 95, 3) := by decide +kernel
theorem dX5_find_288 : decode cX5_find 288 = .ok (.aload_n 0, 1) := by decide +kernel
theorem dX5_find_289 : decode cX5_find 289 = .ok (.iload 5, 2) := by decide +kernel
theorem dX5_find_291 : decode cX5_find 291 = .ok (.putfield 99, 3) := by decide +kernel
theorem dX5_find_294 : decode cX5_find 294 = .ok (.aload_n 0, 1) := by decide +kernel
theorem dX5_find_295 : decode cX5_find 295 = .ok (.iload 6, 2) := by decide +kernel
theorem dX5_find_297 : decode cX5_find 297 = .ok (.putfield 102, 3) := by decide +kernel
theorem dX5_find_300 : decode cX5_find 300 = .ok (.iconst 0, 1) := by decide +kernel
theorem dX5_find_301 : decode cX5_find 301 = .ok (.istore 8, 2) := by decide +kernel
theorem dX5_find_303 : decode cX5_find 303 = .ok (.iload 8, 2) := by decide +kernel
theorem dX5_find_305 : decode cX5_find 305 = .ok (.aload_n 0, 1) := by decide +kernel
theorem dX5_find_306 : decode cX5_find 306 = .ok (.getfield 59, 3) := by decide +kernel
theorem dX5_find_309 : decode cX5_find 309 = .ok (.if_icmp .ge 23, 3) := by decide +kernel
theorem dX5_find_312 : decode cX5_find 312 = .ok (.aload_n 0, 1) := by decide +kernel
theorem dX5_find_313 : decode cX5_find 313 = .ok (.getfield 35, 3) := by decide +kernel
theorem dX5_find_316 : decode cX5_find 316 = .ok (.iload 8, 2) := by decide +kernel
theorem dX5_find_318 : decode cX5_find 318 = .ok (.aload_n 0, 1) := by decide +kernel
theorem dX5_find_319 : decode cX5_find 319 = .ok (.getfield 38, 3) := by decide +kernel
theorem dX5_find_322 : decode cX5_find 322 = .ok (.iload 8, 2) := by decide +kernel
theorem dX5_find_324 : decode cX5_find 324 = .ok (.iaload, 1) := by decide +kernel
theorem dX5_find_325 : decode cX5_find 325 = .ok (.iastore, 1) := by decide +kernel
theorem dX5_find_326 : decode cX5_find 326 = .ok (.iinc 8 1, 3) := by decide +kernel
theorem dX5_find_329 : decode cX5_find 329 = .ok (.goto (-26), 3) := by decide +kernel
theorem dX5_find_332 : decode cX5_find 332 = .ok (.iinc 3 1, 3) := by decide +kernel
theorem dX5_find_335 : decode cX5_find 335 = .ok (.goto (-244), 3) := by decide +kernel
theorem dX5_find_338 : decode cX5_find 338 = .ok (.return_, 1) := by decide +kernel
theorem dX5_best_0 : decode cX5_best 0 = .ok (.aload_n 0, 1) := by decide +kernel
theorem dX5_best_1 : decode cX5_best 1 = .ok (.iload_n 1, 1) := by decide +kernel
theorem dX5_best_2 : decode cX5_best 2 = .ok (.invokevirtual 68, 3) := by decide +kernel
theorem dX5_best_5 : decode cX5_best 5 = .ok (.ifCond .ne 6, 3) := by decide +kernel
theorem dX5_best_8 : decode cX5_best 8 = .ok (.ldc 94, 2) := by decide +kernel
theorem dX5_best_10 : decode cX5_best 10 = .ok (.ireturn, 1) := by decide +kernel
theorem dX5_best_11 : decode cX5_best 11 = .ok (.aload_n 0, 1) := by decide +kernel
theorem dX5_best_12 : decode cX5_best 12 = .ok (.iload_n 1, 1) := by decide +kernel
theorem dX5_best_13 : decode cX5_best 13 = .ok (.invokevirtual 113, 3) := by decide +kernel
theorem dX5_best_16 : decode cX5_best 16 = .ok (.aload_n 0, 1) := by decide +kernel
theorem dX5_best_17 : decode cX5_best 17 = .ok (.getfield 99, 3) := by decide +kernel
theorem dX5_best_20 : decode cX5_best 20 = .ok (.ireturn, 1) := by decide +kernel
theorem dX5_answer_0 : decode cX5_answer 0 = .ok (.aload_n 0, 1) := by decide +kernel
theorem dX5_answer_1 : decode cX5_answer 1 = .ok (.iload_n 1, 1) := by decide +kernel
theorem dX5_answer_2 : decode cX5_answer 2 = .ok (.invokevirtual 68, 3) := by decide +kernel
theorem dX5_answer_5 : decode cX5_answer 5 = .ok (.ifCond .eq 11, 3) := by decide +kernel
theorem dX5_answer_8 : decode cX5_answer 8 = .ok (.aload_n 0, 1) := by decide +kernel
theorem dX5_answer_9 : decode cX5_answer 9 = .ok (.iload_n 2, 1) := by decide +kernel
theorem dX5_answer_10 : decode cX5_answer 10 = .ok (.invokevirtual 72, 3) := by decide +kernel
theorem dX5_answer_13 : decode cX5_answer 13 = .ok (.ifCond .ne 7, 3) := by decide +kernel
theorem dX5_answer_16 : decode cX5_answer 16 = .ok (.sipush (-2000), 3) := by decide +kernel
theorem dX5_answer_19 : decode cX5_answer 19 = .ok (.ireturn, 1) := by decide +kernel
theorem dX5_answer_20 : decode cX5_answer 20 = .ok (.aload_n 0, 1) := by decide +kernel
theorem dX5_answer_21 : decode cX5_answer 21 = .ok (.iload_n 1, 1) := by decide +kernel
theorem dX5_answer_22 : decode cX5_answer 22 = .ok (.invokevirtual 113, 3) := by decide +kernel
theorem dX5_answer_25 : decode cX5_answer 25 = .ok (.aload_n 0, 1) := by decide +kernel
theorem dX5_answer_26 : decode cX5_answer 26 = .ok (.getfield 35, 3) := by decide +kernel
theorem dX5_answer_29 : decode cX5_answer 29 = .ok (.iload_n 2, 1) := by decide +kernel
theorem dX5_answer_30 : decode cX5_answer 30 = .ok (.iaload, 1) := by decide +kernel
theorem dX5_answer_31 : decode cX5_answer 31 = .ok (.ireturn, 1) := by decide +kernel
theorem dX5_adopt_0 : decode cX5_adopt 0 = .ok (.iconst 0, 1) := by decide +kernel
theorem dX5_adopt_1 : decode cX5_adopt 1 = .ok (.istore_n 2, 1) := by decide +kernel
theorem dX5_adopt_2 : decode cX5_adopt 2 = .ok (.iload_n 2, 1) := by decide +kernel
theorem dX5_adopt_3 : decode cX5_adopt 3 = .ok (.aload_n 0, 1) := by decide +kernel
theorem dX5_adopt_4 : decode cX5_adopt 4 = .ok (.getfield 59, 3) := by decide +kernel
theorem dX5_adopt_7 : decode cX5_adopt 7 = .ok (.if_icmp .ge 26, 3) := by decide +kernel
theorem dX5_adopt_10 : decode cX5_adopt 10 = .ok (.aload_n 0, 1) := by decide +kernel
theorem dX5_adopt_11 : decode cX5_adopt 11 = .ok (.getfield 17, 3) := by decide +kernel
theorem dX5_adopt_14 : decode cX5_adopt 14 = .ok (.bipush 6, 2) := by decide +kernel
theorem dX5_adopt_16 : decode cX5_adopt 16 = .ok (.iload_n 1, 1) := by decide +kernel
theorem dX5_adopt_17 : decode cX5_adopt 17 = .ok (.imul, 1) := by decide +kernel
theorem dX5_adopt_18 : decode cX5_adopt 18 = .ok (.iload_n 2, 1) := by decide +kernel
theorem dX5_adopt_19 : decode cX5_adopt 19 = .ok (.iadd, 1) := by decide +kernel
theorem dX5_adopt_20 : decode cX5_adopt 20 = .ok (.aload_n 0, 1) := by decide +kernel
theorem dX5_adopt_21 : decode cX5_adopt 21 = .ok (.getfield 35, 3) := by decide +kernel
theorem dX5_adopt_24 : decode cX5_adopt 24 = .ok (.iload_n 2, 1) := by decide +kernel
theorem dX5_adopt_25 : decode cX5_adopt 25 = .ok (.iaload, 1) := by decide +kernel
theorem dX5_adopt_26 : decode cX5_adopt 26 = .ok (.iastore, 1) := by decide +kernel
theorem dX5_adopt_27 : decode cX5_adopt 27 = .ok (.iinc 2 1, 3) := by decide +kernel
theorem dX5_adopt_30 : decode cX5_adopt 30 = .ok (.goto (-28), 3) := by decide +kernel
theorem dX5_adopt_33 : decode cX5_adopt 33 = .ok (.return_, 1) := by decide +kernel
theorem dX5_take_0 : decode cX5_take 0 = .ok (.aload_n 0, 1) := by decide +kernel
theorem dX5_take_1 : decode cX5_take 1 = .ok (.iload_n 1, 1) := by decide +kernel
theorem dX5_take_2 : decode cX5_take 2 = .ok (.invokevirtual 68, 3) := by decide +kernel
theorem dX5_take_5 : decode cX5_take 5 = .ok (.ifCond .ne 6, 3) := by decide +kernel
theorem dX5_take_8 : decode cX5_take 8 = .ok (.bipush (-101), 2) := by decide +kernel
theorem dX5_take_10 : decode cX5_take 10 = .ok (.ireturn, 1) := by decide +kernel
theorem dX5_take_11 : decode cX5_take 11 = .ok (.aload_n 0, 1) := by decide +kernel
theorem dX5_take_12 : decode cX5_take 12 = .ok (.getfield 13, 3) := by decide +kernel
theorem dX5_take_15 : decode cX5_take 15 = .ok (.iload_n 1, 1) := by decide +kernel
theorem dX5_take_16 : decode cX5_take 16 = .ok (.baload, 1) := by decide +kernel
theorem dX5_take_17 : decode cX5_take 17 = .ok (.ifCond .ne 6, 3) := by decide +kernel
theorem dX5_take_20 : decode cX5_take 20 = .ok (.bipush (-103), 2) := by decide +kernel
theorem dX5_take_22 : decode cX5_take 22 = .ok (.ireturn, 1) := by decide +kernel
theorem dX5_take_23 : decode cX5_take 23 = .ok (.aload_n 0, 1) := by decide +kernel
theorem dX5_take_24 : decode cX5_take 24 = .ok (.iload_n 1, 1) := by decide +kernel
theorem dX5_take_25 : decode cX5_take 25 = .ok (.invokevirtual 113, 3) := by decide +kernel
theorem dX5_take_28 : decode cX5_take 28 = .ok (.aload_n 0, 1) := by decide +kernel
theorem dX5_take_29 : decode cX5_take 29 = .ok (.iload_n 1, 1) := by decide +kernel
theorem dX5_take_30 : decode cX5_take 30 = .ok (.invokevirtual 117, 3) := by decide +kernel
theorem dX5_take_33 : decode cX5_take 33 = .ok (.aload_n 0, 1) := by decide +kernel
theorem dX5_take_34 : decode cX5_take 34 = .ok (.iload_n 1, 1) := by decide +kernel
theorem dX5_take_35 : decode cX5_take 35 = .ok (.invokevirtual 75, 3) := by decide +kernel
theorem dX5_take_38 : decode cX5_take 38 = .ok (.ireturn, 1) := by decide +kernel
theorem dX5_isAsBehind_0 : decode cX5_isAsBehind 0 = .ok (.iconst 1, 1) := by decide +kernel
theorem dX5_isAsBehind_1 : decode cX5_isAsBehind 1 = .ok (.istore_n 2, 1) := by decide +kernel
theorem dX5_isAsBehind_2 : decode cX5_isAsBehind 2 = .ok (.iconst 0, 1) := by decide +kernel
theorem dX5_isAsBehind_3 : decode cX5_isAsBehind 3 = .ok (.istore_n 3, 1) := by decide +kernel
theorem dX5_isAsBehind_4 : decode cX5_isAsBehind 4 = .ok (.iload_n 3, 1) := by decide +kernel
theorem dX5_isAsBehind_5 : decode cX5_isAsBehind 5 = .ok (.bipush 72, 2) := by decide +kernel
theorem dX5_isAsBehind_7 : decode cX5_isAsBehind 7 = .ok (.if_icmp .ge 39, 3) := by decide +kernel
theorem dX5_isAsBehind_10 : decode cX5_isAsBehind 10 = .ok (.iload_n 2, 1) := by decide +kernel
theorem dX5_isAsBehind_11 : decode cX5_isAsBehind 11 = .ok (.ifCond .eq 27, 3) := by decide +kernel
theorem dX5_isAsBehind_14 : decode cX5_isAsBehind 14 = .ok (.aload_n 0, 1) := by decide +kernel
theorem dX5_isAsBehind_15 : decode cX5_isAsBehind 15 = .ok (.getfield 41, 3) := by decide +kernel
theorem dX5_isAsBehind_18 : decode cX5_isAsBehind 18 = .ok (.bipush 72, 2) := by decide +kernel
theorem dX5_isAsBehind_20 : decode cX5_isAsBehind 20 = .ok (.iload_n 1, 1) := by decide +kernel
theorem dX5_isAsBehind_21 : decode cX5_isAsBehind 21 = .ok (.imul, 1) := by decide +kernel
theorem dX5_isAsBehind_22 : decode cX5_isAsBehind 22 = .ok (.iload_n 3, 1) := by decide +kernel
theorem dX5_isAsBehind_23 : decode cX5_isAsBehind 23 = .ok (.iadd, 1) := by decide +kernel
theorem dX5_isAsBehind_24 : decode cX5_isAsBehind 24 = .ok (.iaload, 1) := by decide +kernel
theorem dX5_isAsBehind_25 : decode cX5_isAsBehind 25 = .ok (.aload_n 0, 1) := by decide +kernel
theorem dX5_isAsBehind_26 : decode cX5_isAsBehind 26 = .ok (.getfield 17, 3) := by decide +kernel
theorem dX5_isAsBehind_29 : decode cX5_isAsBehind 29 = .ok (.iload_n 3, 1) := by decide +kernel
theorem dX5_isAsBehind_30 : decode cX5_isAsBehind 30 = .ok (.iaload, 1) := by decide +kernel
theorem dX5_isAsBehind_31 : decode cX5_isAsBehind 31 = .ok (.if_icmp .ne 7, 3) := by decide +kernel
theorem dX5_isAsBehind_34 : decode cX5_isAsBehind 34 = .ok (.iconst 1, 1) := by decide +kernel
theorem dX5_isAsBehind_35 : decode cX5_isAsBehind 35 = .ok (.goto 4, 3) := by decide +kernel
theorem dX5_isAsBehind_38 : decode cX5_isAsBehind 38 = .ok (.iconst 0, 1) := by decide +kernel
theorem dX5_isAsBehind_39 : decode cX5_isAsBehind 39 = .ok (.istore_n 2, 1) := by decide +kernel
theorem dX5_isAsBehind_40 : decode cX5_isAsBehind 40 = .ok (.iinc 3 1, 3) := by decide +kernel
theorem dX5_isAsBehind_43 : decode cX5_isAsBehind 43 = .ok (.goto (-39), 3) := by decide +kernel
theorem dX5_isAsBehind_46 : decode cX5_isAsBehind 46 = .ok (.iload_n 2, 1) := by decide +kernel
theorem dX5_isAsBehind_47 : decode cX5_isAsBehind 47 = .ok (.ireturn, 1) := by decide +kernel
theorem dX5_keep_0 : decode cX5_keep 0 = .ok (.iconst 0, 1) := by decide +kernel
theorem dX5_keep_1 : decode cX5_keep 1 = .ok (.istore_n 2, 1) := by decide +kernel
theorem dX5_keep_2 : decode cX5_keep 2 = .ok (.iload_n 2, 1) := by decide +kernel
theorem dX5_keep_3 : decode cX5_keep 3 = .ok (.bipush 72, 2) := by decide +kernel
theorem dX5_keep_5 : decode cX5_keep 5 = .ok (.if_icmp .ge 26, 3) := by decide +kernel
theorem dX5_keep_8 : decode cX5_keep 8 = .ok (.aload_n 0, 1) := by decide +kernel
theorem dX5_keep_9 : decode cX5_keep 9 = .ok (.getfield 41, 3) := by decide +kernel
theorem dX5_keep_12 : decode cX5_keep 12 = .ok (.bipush 72, 2) := by decide +kernel
theorem dX5_keep_14 : decode cX5_keep 14 = .ok (.iload_n 1, 1) := by decide +kernel
theorem dX5_keep_15 : decode cX5_keep 15 = .ok (.imul, 1) := by decide +kernel
theorem dX5_keep_16 : decode cX5_keep 16 = .ok (.iload_n 2, 1) := by decide +kernel
theorem dX5_keep_17 : decode cX5_keep 17 = .ok (.iadd, 1) := by decide +kernel
theorem dX5_keep_18 : decode cX5_keep 18 = .ok (.aload_n 0, 1) := by decide +kernel
theorem dX5_keep_19 : decode cX5_keep 19 = .ok (.getfield 17, 3) := by decide +kernel
theorem dX5_keep_22 : decode cX5_keep 22 = .ok (.iload_n 2, 1) := by decide +kernel
theorem dX5_keep_23 : decode cX5_keep 23 = .ok (.iaload, 1) := by decide +kernel
theorem dX5_keep_24 : decode cX5_keep 24 = .ok (.iastore, 1) := by decide +kernel
theorem dX5_keep_25 : decode cX5_keep 25 = .ok (.iinc 2 1, 3) := by decide +kernel
theorem dX5_keep_28 : decode cX5_keep 28 = .ok (.goto (-26), 3) := by decide +kernel
theorem dX5_keep_31 : decode cX5_keep 31 = .ok (.return_, 1) := by decide +kernel
theorem dX5_play_0 : decode cX5_play 0 = .ok (.iload_n 1, 1) := by decide +kernel
theorem dX5_play_1 : decode cX5_play 1 = .ok (.iconst 1, 1) := by decide +kernel
theorem dX5_play_2 : decode cX5_play 2 = .ok (.bipush 30, 2) := by decide +kernel
theorem dX5_play_4 : decode cX5_play 4 = .ok (.invokestatic 55, 3) := by decide +kernel
theorem dX5_play_7 : decode cX5_play 7 = .ok (.ifCond .ne 6, 3) := by decide +kernel
theorem dX5_play_10 : decode cX5_play 10 = .ok (.bipush (-102), 2) := by decide +kernel
theorem dX5_play_12 : decode cX5_play 12 = .ok (.ireturn, 1) := by decide +kernel
theorem dX5_play_13 : decode cX5_play 13 = .ok (.aload_n 0, 1) := by decide +kernel
theorem dX5_play_14 : decode cX5_play 14 = .ok (.iconst 0, 1) := by decide +kernel
theorem dX5_play_15 : decode cX5_play 15 = .ok (.putfield 120, 3) := by decide +kernel
theorem dX5_play_18 : decode cX5_play 18 = .ok (.aload_n 0, 1) := by decide +kernel
theorem dX5_play_19 : decode cX5_play 19 = .ok (.iconst 0, 1) := by decide +kernel
theorem dX5_play_20 : decode cX5_play 20 = .ok (.putfield 123, 3) := by decide +kernel
theorem dX5_play_23 : decode cX5_play 23 = .ok (.aload_n 0, 1) := by decide +kernel
theorem dX5_play_24 : decode cX5_play 24 = .ok (.iconst 0, 1) := by decide +kernel
theorem dX5_play_25 : decode cX5_play 25 = .ok (.invokevirtual 126, 3) := by decide +kernel
theorem dX5_play_28 : decode cX5_play 28 = .ok (.iconst 0, 1) := by decide +kernel
theorem dX5_play_29 : decode cX5_play 29 = .ok (.istore_n 2, 1) := by decide +kernel
theorem dX5_play_30 : decode cX5_play 30 = .ok (.iload_n 2, 1) := by decide +kernel
theorem dX5_play_31 : decode cX5_play 31 = .ok (.iload_n 1, 1) := by decide +kernel
theorem dX5_play_32 : decode cX5_play 32 = .ok (.if_icmp .ge 152, 3) := by decide +kernel
theorem dX5_play_35 : decode cX5_play 35 = .ok (.aload_n 0, 1) := by decide +kernel
theorem dX5_play_36 : decode cX5_play 36 = .ok (.getfield 120, 3) := by decide +kernel
theorem dX5_play_39 : decode cX5_play 39 = .ok (.ifCond .ne 145, 3) := by decide +kernel
theorem dX5_play_42 : decode cX5_play 42 = .ok (.iinc 2 1, 3) := by decide +kernel
theorem dX5_play_45 : decode cX5_play 45 = .ok (.aload_n 0, 1) := by decide +kernel
theorem dX5_play_46 : decode cX5_play 46 = .ok (.dup, 1) := by decide +kernel
theorem dX5_play_47 : decode cX5_play 47 = .ok (.getfield 129, 3) := by decide +kernel
theorem dX5_play_50 : decode cX5_play 50 = .ok (.iconst 1, 1) := by decide +kernel
theorem dX5_play_51 : decode cX5_play 51 = .ok (.iadd, 1) := by decide +kernel
theorem dX5_play_52 : decode cX5_play 52 = .ok (.putfield 129, 3) := by decide +kernel
theorem dX5_play_55 : decode cX5_play 55 = .ok (.iconst 0, 1) := by decide +kernel
theorem dX5_play_56 : decode cX5_play 56 = .ok (.istore_n 3, 1) := by decide +kernel
theorem dX5_play_57 : decode cX5_play 57 = .ok (.iconst 0, 1) := by decide +kernel
theorem dX5_play_58 : decode cX5_play 58 = .ok (.istore 4, 2) := by decide +kernel
theorem dX5_play_60 : decode cX5_play 60 = .ok (.iload 4, 2) := by decide +kernel
theorem dX5_play_62 : decode cX5_play 62 = .ok (.aload_n 0, 1) := by decide +kernel
theorem dX5_play_63 : decode cX5_play 63 = .ok (.getfield 51, 3) := by decide +kernel
theorem dX5_play_66 : decode cX5_play 66 = .ok (.if_icmp .ge 56, 3) := by decide +kernel
theorem dX5_play_69 : decode cX5_play 69 = .ok (.aload_n 0, 1) := by decide +kernel
theorem dX5_play_70 : decode cX5_play 70 = .ok (.getfield 13, 3) := by decide +kernel
theorem dX5_play_73 : decode cX5_play 73 = .ok (.iload 4, 2) := by decide +kernel
theorem dX5_play_75 : decode cX5_play 75 = .ok (.baload, 1) := by decide +kernel
theorem dX5_play_76 : decode cX5_play 76 = .ok (.ifCond .eq 40, 3) := by decide +kernel
theorem dX5_play_79 : decode cX5_play 79 = .ok (.aload_n 0, 1) := by decide +kernel
theorem dX5_play_80 : decode cX5_play 80 = .ok (.iload 4, 2) := by decide +kernel
theorem dX5_play_82 : decode cX5_play 82 = .ok (.invokevirtual 113, 3) := by decide +kernel
theorem dX5_play_85 : decode cX5_play 85 = .ok (.aload_n 0, 1) := by decide +kernel
theorem dX5_play_86 : decode cX5_play 86 = .ok (.getfield 99, 3) := by decide +kernel
theorem dX5_play_89 : decode cX5_play 89 = .ok (.aload_n 0, 1) := by decide +kernel
theorem dX5_play_90 : decode cX5_play 90 = .ok (.iload 4, 2) := by decide +kernel
theorem dX5_play_92 : decode cX5_play 92 = .ok (.invokevirtual 91, 3) := by decide +kernel
theorem dX5_play_95 : decode cX5_play 95 = .ok (.if_icmp .le 21, 3) := by decide +kernel
theorem dX5_play_98 : decode cX5_play 98 = .ok (.aload_n 0, 1) := by decide +kernel
theorem dX5_play_99 : decode cX5_play 99 = .ok (.iload 4, 2) := by decide +kernel
theorem dX5_play_101 : decode cX5_play 101 = .ok (.invokevirtual 117, 3) := by decide +kernel
theorem dX5_play_104 : decode cX5_play 104 = .ok (.aload_n 0, 1) := by decide +kernel
theorem dX5_play_105 : decode cX5_play 105 = .ok (.dup, 1) := by decide +kernel
theorem dX5_play_106 : decode cX5_play 106 = .ok (.getfield 132, 3) := by decide +kernel
theorem dX5_play_109 : decode cX5_play 109 = .ok (.iconst 1, 1) := by decide +kernel
theorem dX5_play_110 : decode cX5_play 110 = .ok (.iadd, 1) := by decide +kernel
theorem dX5_play_111 : decode cX5_play 111 = .ok (.putfield 132, 3) := by decide +kernel
theorem dX5_play_114 : decode cX5_play 114 = .ok (.iconst 1, 1) := by decide +kernel
theorem dX5_play_115 : decode cX5_play 115 = .ok (.istore_n 3, 1) := by decide +kernel
theorem dX5_play_116 : decode cX5_play 116 = .ok (.iinc 4 1, 3) := by decide +kernel
theorem dX5_play_119 : decode cX5_play 119 = .ok (.goto (-59), 3) := by decide +kernel
theorem dX5_play_122 : decode cX5_play 122 = .ok (.iload_n 3, 1) := by decide +kernel
theorem dX5_play_123 : decode cX5_play 123 = .ok (.ifCond .ne 8, 3) := by decide +kernel
theorem dX5_play_126 : decode cX5_play 126 = .ok (.aload_n 0, 1) := by decide +kernel
theorem dX5_play_127 : decode cX5_play 127 = .ok (.iconst 1, 1) := by decide +kernel
theorem dX5_play_128 : decode cX5_play 128 = .ok (.putfield 120, 3) := by decide +kernel
theorem dX5_play_131 : decode cX5_play 131 = .ok (.iload_n 2, 1) := by decide +kernel
theorem dX5_play_132 : decode cX5_play 132 = .ok (.iconst 1, 1) := by decide +kernel
theorem dX5_play_133 : decode cX5_play 133 = .ok (.isub, 1) := by decide +kernel
theorem dX5_play_134 : decode cX5_play 134 = .ok (.istore 4, 2) := by decide +kernel
theorem dX5_play_136 : decode cX5_play 136 = .ok (.iload 4, 2) := by decide +kernel
theorem dX5_play_138 : decode cX5_play 138 = .ok (.ifCond .lt 38, 3) := by decide +kernel
theorem dX5_play_141 : decode cX5_play 141 = .ok (.aload_n 0, 1) := by decide +kernel
theorem dX5_play_142 : decode cX5_play 142 = .ok (.getfield 120, 3) := by decide +kernel
theorem dX5_play_145 : decode cX5_play 145 = .ok (.ifCond .ne 31, 3) := by decide +kernel
theorem dX5_play_148 : decode cX5_play 148 = .ok (.aload_n 0, 1) := by decide +kernel
theorem dX5_play_149 : decode cX5_play 149 = .ok (.iload 4, 2) := by decide +kernel
theorem dX5_play_151 : decode cX5_play 151 = .ok (.invokevirtual 135, 3) := by decide +kernel
theorem dX5_play_154 : decode cX5_play 154 = .ok (.ifCond .eq 16, 3) := by decide +kernel
theorem dX5_play_157 : decode cX5_play 157 = .ok (.aload_n 0, 1) := by decide +kernel
theorem dX5_play_158 : decode cX5_play 158 = .ok (.iconst 2, 1) := by decide +kernel
theorem dX5_play_159 : decode cX5_play 159 = .ok (.putfield 120, 3) := by decide +kernel
theorem dX5_play_162 : decode cX5_play 162 = .ok (.aload_n 0, 1) := by decide +kernel
theorem dX5_play_163 : decode cX5_play 163 = .ok (.iload_n 2, 1) := by decide +kernel
theorem dX5_play_164 : decode cX5_play 164 = .ok (.iload 4, 2) := by decide +kernel
theorem dX5_play_166 : decode cX5_play 166 = .ok (.isub, 1) := by decide +kernel
theorem dX5_play_167 : decode cX5_play 167 = .ok (.putfield 123, 3) := by decide +kernel
theorem dX5_play_170 : decode cX5_play 170 = .ok (.iinc 4 (-1), 3) := by decide +kernel
theorem dX5_play_173 : decode cX5_play 173 = .ok (.goto (-37), 3) := by decide +kernel
theorem dX5_play_176 : decode cX5_play 176 = .ok (.aload_n 0, 1) := by decide +kernel
theorem dX5_play_177 : decode cX5_play 177 = .ok (.iload_n 2, 1) := by decide +kernel
theorem dX5_play_178 : decode cX5_play 178 = .ok (.invokevirtual 126, 3) := by decide +kernel
theorem dX5_play_181 : decode cX5_play 181 = .ok (.goto (-151), 3) := by decide +kernel
theorem dX5_play_184 : decode cX5_play 184 = .ok (.iload_n 2, 1) := by decide +kernel
theorem dX5_play_185 : decode cX5_play 185 = .ok (.ireturn, 1) := by decide +kernel
theorem dX5_ended_0 : decode cX5_ended 0 = .ok (.aload_n 0, 1) := by decide +kernel
theorem dX5_ended_1 : decode cX5_ended 1 = .ok (.getfield 120, 3) := by decide +kernel
theorem dX5_ended_4 : decode cX5_ended 4 = .ok (.ireturn, 1) := by decide +kernel
theorem dX5_ring_0 : decode cX5_ring 0 = .ok (.aload_n 0, 1) := by decide +kernel
theorem dX5_ring_1 : decode cX5_ring 1 = .ok (.getfield 123, 3) := by decide +kernel
theorem dX5_ring_4 : decode cX5_ring 4 = .ok (.ireturn, 1) := by decide +kernel
theorem dX5_gift_0 : decode cX5_gift 0 = .ok (.aload_n 0, 1) := by decide +kernel
theorem dX5_gift_1 : decode cX5_gift 1 = .ok (.iload_n 1, 1) := by decide +kernel
theorem dX5_gift_2 : decode cX5_gift 2 = .ok (.invokevirtual 68, 3) := by decide +kernel
theorem dX5_gift_5 : decode cX5_gift 5 = .ok (.ifCond .eq 11, 3) := by decide +kernel
theorem dX5_gift_8 : decode cX5_gift 8 = .ok (.aload_n 0, 1) := by decide +kernel
theorem dX5_gift_9 : decode cX5_gift 9 = .ok (.iload_n 2, 1) := by decide +kernel
theorem dX5_gift_10 : decode cX5_gift 10 = .ok (.invokevirtual 138, 3) := by decide +kernel
theorem dX5_gift_13 : decode cX5_gift 13 = .ok (.ifCond .ne 6, 3) := by decide +kernel
theorem dX5_gift_16 : decode cX5_gift 16 = .ok (.bipush (-101), 2) := by decide +kernel
theorem dX5_gift_18 : decode cX5_gift 18 = .ok (.ireturn, 1) := by decide +kernel
theorem dX5_gift_19 : decode cX5_gift 19 = .ok (.iload_n 3, 1) := by decide +kernel
theorem dX5_gift_20 : decode cX5_gift 20 = .ok (.iconst 0, 1) := by decide +kernel
theorem dX5_gift_21 : decode cX5_gift 21 = .ok (.ldc 141, 2) := by decide +kernel
theorem dX5_gift_23 : decode cX5_gift 23 = .ok (.invokestatic 55, 3) := by decide +kernel
theorem dX5_gift_26 : decode cX5_gift 26 = .ok (.ifCond .ne 6, 3) := by decide +kernel
theorem dX5_gift_29 : decode cX5_gift 29 = .ok (.bipush (-102), 2) := by decide +kernel
theorem dX5_gift_31 : decode cX5_gift 31 = .ok (.ireturn, 1) := by decide +kernel
theorem dX5_gift_32 : decode cX5_gift 32 = .ok (.aload_n 0, 1) := by decide +kernel
theorem dX5_gift_33 : decode cX5_gift 33 = .ok (.getfield 23, 3) := by decide +kernel
theorem dX5_gift_36 : decode cX5_gift 36 = .ok (.bipush 6, 2) := by decide +kernel
theorem dX5_gift_38 : decode cX5_gift 38 = .ok (.iload_n 1, 1) := by decide +kernel
theorem dX5_gift_39 : decode cX5_gift 39 = .ok (.imul, 1) := by decide +kernel
theorem dX5_gift_40 : decode cX5_gift 40 = .ok (.iload_n 2, 1) := by decide +kernel
theorem dX5_gift_41 : decode cX5_gift 41 = .ok (.iadd, 1) := by decide +kernel
theorem dX5_gift_42 : decode cX5_gift 42 = .ok (.iaload, 1) := by decide +kernel
theorem dX5_gift_43 : decode cX5_gift 43 = .ok (.istore 4, 2) := by decide +kernel
theorem dX5_gift_45 : decode cX5_gift 45 = .ok (.aload_n 0, 1) := by decide +kernel
theorem dX5_gift_46 : decode cX5_gift 46 = .ok (.getfield 23, 3) := by decide +kernel
theorem dX5_gift_49 : decode cX5_gift 49 = .ok (.bipush 6, 2) := by decide +kernel
theorem dX5_gift_51 : decode cX5_gift 51 = .ok (.iload_n 1, 1) := by decide +kernel
theorem dX5_gift_52 : decode cX5_gift 52 = .ok (.imul, 1) := by decide +kernel
theorem dX5_gift_53 : decode cX5_gift 53 = .ok (.iload_n 2, 1) := by decide +kernel
theorem dX5_gift_54 : decode cX5_gift 54 = .ok (.iadd, 1) := by decide +kernel
theorem dX5_gift_55 : decode cX5_gift 55 = .ok (.iload_n 3, 1) := by decide +kernel
theorem dX5_gift_56 : decode cX5_gift 56 = .ok (.iastore, 1) := by decide +kernel
theorem dX5_gift_57 : decode cX5_gift 57 = .ok (.iload 4, 2) := by decide +kernel
theorem dX5_gift_59 : decode cX5_gift 59 = .ok (.ireturn, 1) := by decide +kernel
theorem dX5_bond_0 : decode cX5_bond 0 = .ok (.aload_n 0, 1) := by decide +kernel
theorem dX5_bond_1 : decode cX5_bond 1 = .ok (.iload_n 1, 1) := by decide +kernel
theorem dX5_bond_2 : decode cX5_bond 2 = .ok (.invokevirtual 68, 3) := by decide +kernel
theorem dX5_bond_5 : decode cX5_bond 5 = .ok (.ifCond .eq 11, 3) := by decide +kernel
theorem dX5_bond_8 : decode cX5_bond 8 = .ok (.aload_n 0, 1) := by decide +kernel
theorem dX5_bond_9 : decode cX5_bond 9 = .ok (.iload_n 2, 1) := by decide +kernel
theorem dX5_bond_10 : decode cX5_bond 10 = .ok (.invokevirtual 68, 3) := by decide +kernel
theorem dX5_bond_13 : decode cX5_bond 13 = .ok (.ifCond .ne 6, 3) := by decide +kernel
theorem dX5_bond_16 : decode cX5_bond 16 = .ok (.bipush (-101), 2) := by decide +kernel
theorem dX5_bond_18 : decode cX5_bond 18 = .ok (.ireturn, 1) := by decide +kernel
theorem dX5_bond_19 : decode cX5_bond 19 = .ok (.iload_n 1, 1) := by decide +kernel
theorem dX5_bond_20 : decode cX5_bond 20 = .ok (.iload_n 2, 1) := by decide +kernel
theorem dX5_bond_21 : decode cX5_bond 21 = .ok (.if_icmp .eq 14, 3) := by decide +kernel
theorem dX5_bond_24 : decode cX5_bond 24 = .ok (.iload_n 3, 1) := by decide +kernel
theorem dX5_bond_25 : decode cX5_bond 25 = .ok (.iconst 0, 1) := by decide +kernel
theorem dX5_bond_26 : decode cX5_bond 26 = .ok (.sipush 1000, 3) := by decide +kernel
theorem dX5_bond_29 : decode cX5_bond 29 = .ok (.invokestatic 55, 3) := by decide +kernel
theorem dX5_bond_32 : decode cX5_bond 32 = .ok (.ifCond .ne 6, 3) := by decide +kernel
theorem dX5_bond_35 : decode cX5_bond 35 = .ok (.bipush (-102), 2) := by decide +kernel
theorem dX5_bond_37 : decode cX5_bond 37 = .ok (.ireturn, 1) := by decide +kernel
theorem dX5_bond_38 : decode cX5_bond 38 = .ok (.aload_n 0, 1) := by decide +kernel
theorem dX5_bond_39 : decode cX5_bond 39 = .ok (.getfield 26, 3) := by decide +kernel
theorem dX5_bond_42 : decode cX5_bond 42 = .ok (.bipush 12, 2) := by decide +kernel
theorem dX5_bond_44 : decode cX5_bond 44 = .ok (.iload_n 1, 1) := by decide +kernel
theorem dX5_bond_45 : decode cX5_bond 45 = .ok (.imul, 1) := by decide +kernel
theorem dX5_bond_46 : decode cX5_bond 46 = .ok (.iload_n 2, 1) := by decide +kernel
theorem dX5_bond_47 : decode cX5_bond 47 = .ok (.iadd, 1) := by decide +kernel
theorem dX5_bond_48 : decode cX5_bond 48 = .ok (.iaload, 1) := by decide +kernel
theorem dX5_bond_49 : decode cX5_bond 49 = .ok (.istore 4, 2) := by decide +kernel
theorem dX5_bond_51 : decode cX5_bond 51 = .ok (.aload_n 0, 1) := by decide +kernel
theorem dX5_bond_52 : decode cX5_bond 52 = .ok (.getfield 26, 3) := by decide +kernel
theorem dX5_bond_55 : decode cX5_bond 55 = .ok (.bipush 12, 2) := by decide +kernel
theorem dX5_bond_57 : decode cX5_bond 57 = .ok (.iload_n 1, 1) := by decide +kernel
theorem dX5_bond_58 : decode cX5_bond 58 = .ok (.imul, 1) := by decide +kernel
theorem dX5_bond_59 : decode cX5_bond 59 = .ok (.iload_n 2, 1) := by decide +kernel
theorem dX5_bond_60 : decode cX5_bond 60 = .ok (.iadd, 1) := by decide +kernel
theorem dX5_bond_61 : decode cX5_bond 61 = .ok (.iload_n 3, 1) := by decide +kernel
theorem dX5_bond_62 : decode cX5_bond 62 = .ok (.iastore, 1) := by decide +kernel
theorem dX5_bond_63 : decode cX5_bond 63 = .ok (.aload_n 0, 1) := by decide +kernel
theorem dX5_bond_64 : decode cX5_bond 64 = .ok (.getfield 26, 3) := by decide +kernel
theorem dX5_bond_67 : decode cX5_bond 67 = .ok (.bipush 12, 2) := by decide +kernel
theorem dX5_bond_69 : decode cX5_bond 69 = .ok (.iload_n 2, 1) := by decide +kernel
theorem dX5_bond_70 : decode cX5_bond 70 = .ok (.imul, 1) := by decide +kernel
theorem dX5_bond_71 : decode cX5_bond 71 = .ok (.iload_n 1, 1) := by decide +kernel
theorem dX5_bond_72 : decode cX5_bond 72 = .ok (.iadd, 1) := by decide +kernel
theorem dX5_bond_73 : decode cX5_bond 73 = .ok (.iload_n 3, 1) := by decide +kernel
theorem dX5_bond_74 : decode cX5_bond 74 = .ok (.iastore, 1) := by decide +kernel
theorem dX5_bond_75 : decode cX5_bond 75 = .ok (.iload 4, 2) := by decide +kernel
theorem dX5_bond_77 : decode cX5_bond 77 = .ok (.ireturn, 1) := by decide +kernel
theorem dX5_root_0 : decode cX5_root 0 = .ok (.lconst 0, 1) := by decide +kernel
theorem dX5_root_1 : decode cX5_root 1 = .ok (.lstore_n 2, 1) := by decide +kernel
theorem dX5_root_2 : decode cX5_root 2 = .ok (.bipush 28, 2) := by decide +kernel
theorem dX5_root_4 : decode cX5_root 4 = .ok (.istore 4, 2) := by decide +kernel
theorem dX5_root_6 : decode cX5_root 6 = .ok (.iload 4, 2) := by decide +kernel
theorem dX5_root_8 : decode cX5_root 8 = .ok (.ifCond .lt 34, 3) := by decide +kernel
theorem dX5_root_11 : decode cX5_root 11 = .ok (.lload_n 2, 1) := by decide +kernel
theorem dX5_root_12 : decode cX5_root 12 = .ok (.lconst 1, 1) := by decide +kernel
theorem dX5_root_13 : decode cX5_root 13 = .ok (.iload 4, 2) := by decide +kernel
theorem dX5_root_15 : decode cX5_root 15 = .ok (.lshl, 1) := by decide +kernel
theorem dX5_root_16 : decode cX5_root 16 = .ok (.lor, 1) := by decide +kernel
theorem dX5_root_17 : decode cX5_root 17 = .ok (.lstore 5, 2) := by decide +kernel
theorem dX5_root_19 : decode cX5_root 19 = .ok (.lload 5, 2) := by decide +kernel
theorem dX5_root_21 : decode cX5_root 21 = .ok (.lload 5, 2) := by decide +kernel
theorem dX5_root_23 : decode cX5_root 23 = .ok (.lmul, 1) := by decide +kernel
theorem dX5_root_24 : decode cX5_root 24 = .ok (.lload_n 0, 1) := by decide +kernel
theorem dX5_root_25 : decode cX5_root 25 = .ok (.lcmp, 1) := by decide +kernel
theorem dX5_root_26 : decode cX5_root 26 = .ok (.ifCond .gt 8, 3) := by decide +kernel
theorem dX5_root_29 : decode cX5_root 29 = .ok (.lload 5, 2) := by decide +kernel
theorem dX5_root_31 : decode cX5_root 31 = .ok (.goto 4, 3) := by decide +kernel
theorem dX5_root_34 : decode cX5_root 34 = .ok (.lload_n 2, 1) := by decide +kernel
theorem dX5_root_35 : decode cX5_root 35 = .ok (.lstore_n 2, 1) := by decide +kernel
theorem dX5_root_36 : decode cX5_root 36 = .ok (.iinc 4 (-1), 3) := by decide +kernel
theorem dX5_root_39 : decode cX5_root 39 = .ok (.goto (-33), 3) := by decide +kernel
theorem dX5_root_42 : decode cX5_root 42 = .ok (.lload_n 2, 1) := by decide +kernel
theorem dX5_root_43 : decode cX5_root 43 = .ok (.lreturn, 1) := by decide +kernel
theorem dX5_matchedOf_0 : decode cX5_matchedOf 0 = .ok (.lconst 0, 1) := by decide +kernel
theorem dX5_matchedOf_1 : decode cX5_matchedOf 1 = .ok (.lstore 4, 2) := by decide +kernel
theorem dX5_matchedOf_3 : decode cX5_matchedOf 3 = .ok (.iconst 0, 1) := by decide +kernel
theorem dX5_matchedOf_4 : decode cX5_matchedOf 4 = .ok (.istore 6, 2) := by decide +kernel
theorem dX5_matchedOf_6 : decode cX5_matchedOf 6 = .ok (.iload 6, 2) := by decide +kernel
theorem dX5_matchedOf_8 : decode cX5_matchedOf 8 = .ok (.aload_n 0, 1) := by decide +kernel
theorem dX5_matchedOf_9 : decode cX5_matchedOf 9 = .ok (.getfield 51, 3) := by decide +kernel
theorem dX5_matchedOf_12 : decode cX5_matchedOf 12 = .ok (.if_icmp .ge 124, 3) := by decide +kernel
theorem dX5_matchedOf_15 : decode cX5_matchedOf 15 = .ok (.iconst 0, 1) := by decide +kernel
theorem dX5_matchedOf_16 : decode cX5_matchedOf 16 = .ok (.istore 7, 2) := by decide +kernel
theorem dX5_matchedOf_18 : decode cX5_matchedOf 18 = .ok (.iload 7, 2) := by decide +kernel
theorem dX5_matchedOf_20 : decode cX5_matchedOf 20 = .ok (.iload 6, 2) := by decide +kernel
theorem dX5_matchedOf_22 : decode cX5_matchedOf 22 = .ok (.if_icmp .ge 108, 3) := by decide +kernel
theorem dX5_matchedOf_25 : decode cX5_matchedOf 25 = .ok (.ldc2_w 142, 3) := by decide +kernel
theorem dX5_matchedOf_28 : decode cX5_matchedOf 28 = .ok (.aload_n 0, 1) := by decide +kernel
theorem dX5_matchedOf_29 : decode cX5_matchedOf 29 = .ok (.getfield 23, 3) := by decide +kernel
theorem dX5_matchedOf_32 : decode cX5_matchedOf 32 = .ok (.bipush 6, 2) := by decide +kernel
theorem dX5_matchedOf_34 : decode cX5_matchedOf 34 = .ok (.iload 6, 2) := by decide +kernel
theorem dX5_matchedOf_36 : decode cX5_matchedOf 36 = .ok (.imul, 1) := by decide +kernel
theorem dX5_matchedOf_37 : decode cX5_matchedOf 37 = .ok (.iload_n 1, 1) := by decide +kernel
theorem dX5_matchedOf_38 : decode cX5_matchedOf 38 = .ok (.iadd, 1) := by decide +kernel
theorem dX5_matchedOf_39 : decode cX5_matchedOf 39 = .ok (.iaload, 1) := by decide +kernel
theorem dX5_matchedOf_40 : decode cX5_matchedOf 40 = .ok (.i2l, 1) := by decide +kernel
theorem dX5_matchedOf_41 : decode cX5_matchedOf 41 = .ok (.lmul, 1) := by decide +kernel
theorem dX5_matchedOf_42 : decode cX5_matchedOf 42 = .ok (.aload_n 0, 1) := by decide +kernel
theorem dX5_matchedOf_43 : decode cX5_matchedOf 43 = .ok (.getfield 23, 3) := by decide +kernel
theorem dX5_matchedOf_46 : decode cX5_matchedOf 46 = .ok (.bipush 6, 2) := by decide +kernel
theorem dX5_matchedOf_48 : decode cX5_matchedOf 48 = .ok (.iload 7, 2) := by decide +kernel
theorem dX5_matchedOf_50 : decode cX5_matchedOf 50 = .ok (.imul, 1) := by decide +kernel
theorem dX5_matchedOf_51 : decode cX5_matchedOf 51 = .ok (.iload_n 1, 1) := by decide +kernel
theorem dX5_matchedOf_52 : decode cX5_matchedOf 52 = .ok (.iadd, 1) := by decide +kernel
theorem dX5_matchedOf_53 : decode cX5_matchedOf 53 = .ok (.iaload, 1) := by decide +kernel
theorem dX5_matchedOf_54 : decode cX5_matchedOf 54 = .ok (.i2l, 1) := by decide +kernel
theorem dX5_matchedOf_55 : decode cX5_matchedOf 55 = .ok (.lmul, 1) := by decide +kernel
theorem dX5_matchedOf_56 : decode cX5_matchedOf 56 = .ok (.lstore 8, 2) := by decide +kernel
theorem dX5_matchedOf_58 : decode cX5_matchedOf 58 = .ok (.iload_n 3, 1) := by decide +kernel
theorem dX5_matchedOf_59 : decode cX5_matchedOf 59 = .ok (.ifCond .eq 9, 3) := by decide +kernel
theorem dX5_matchedOf_62 : decode cX5_matchedOf 62 = .ok (.ldc2_w 144, 3) := by decide +kernel
theorem dX5_matchedOf_65 : decode cX5_matchedOf 65 = .ok (.goto 17, 3) := by decide +kernel
theorem dX5_matchedOf_68 : decode cX5_matchedOf 68 = .ok (.aload_n 0, 1) := by decide +kernel
theorem dX5_matchedOf_69 : decode cX5_matchedOf 69 = .ok (.getfield 26, 3) := by decide +kernel
theorem dX5_matchedOf_72 : decode cX5_matchedOf 72 = .ok (.bipush 12, 2) := by decide +kernel
theorem dX5_matchedOf_74 : decode cX5_matchedOf 74 = .ok (.iload 6, 2) := by decide +kernel
theorem dX5_matchedOf_76 : decode cX5_matchedOf 76 = .ok (.imul, 1) := by decide +kernel
theorem dX5_matchedOf_77 : decode cX5_matchedOf 77 = .ok (.iload 7, 2) := by decide +kernel
theorem dX5_matchedOf_79 : decode cX5_matchedOf 79 = .ok (.iadd, 1) := by decide +kernel
theorem dX5_matchedOf_80 : decode cX5_matchedOf 80 = .ok (.iaload, 1) := by decide +kernel
theorem dX5_matchedOf_81 : decode cX5_matchedOf 81 = .ok (.i2l, 1) := by decide +kernel
theorem dX5_matchedOf_82 : decode cX5_matchedOf 82 = .ok (.lstore 10, 2) := by decide +kernel
theorem dX5_matchedOf_84 : decode cX5_matchedOf 84 = .ok (.lload 8, 2) := by decide +kernel
theorem dX5_matchedOf_86 : decode cX5_matchedOf 86 = .ok (.invokestatic 146, 3) := by decide +kernel
theorem dX5_matchedOf_89 : decode cX5_matchedOf 89 = .ok (.lstore 12, 2) := by decide +kernel
theorem dX5_matchedOf_91 : decode cX5_matchedOf 91 = .ok (.lload 4, 2) := by decide +kernel
theorem dX5_matchedOf_93 : decode cX5_matchedOf 93 = .ok (.lload 10, 2) := by decide +kernel
theorem dX5_matchedOf_95 : decode cX5_matchedOf 95 = .ok (.lload 12, 2) := by decide +kernel
theorem dX5_matchedOf_97 : decode cX5_matchedOf 97 = .ok (.lmul, 1) := by decide +kernel
theorem dX5_matchedOf_98 : decode cX5_matchedOf 98 = .ok (.iload_n 2, 1) := by decide +kernel
theorem dX5_matchedOf_99 : decode cX5_matchedOf 99 = .ok (.iconst 1, 1) := by decide +kernel
theorem dX5_matchedOf_100 : decode cX5_matchedOf 100 = .ok (.if_icmp .ne 19, 3) := by decide +kernel
theorem dX5_matchedOf_103 : decode cX5_matchedOf 103 = .ok (.lload 12, 2) := by decide +kernel
theorem dX5_matchedOf_105 : decode cX5_matchedOf 105 = .ok (.lload 12, 2) := by decide +kernel
theorem dX5_matchedOf_107 : decode cX5_matchedOf 107 = .ok (.lmul, 1) := by decide +kernel
theorem dX5_matchedOf_108 : decode cX5_matchedOf 108 = .ok (.lload 8, 2) := by decide +kernel
theorem dX5_matchedOf_110 : decode cX5_matchedOf 110 = .ok (.lcmp, 1) := by decide +kernel
theorem dX5_matchedOf_111 : decode cX5_matchedOf 111 = .ok (.ifCond .eq 8, 3) := by decide +kernel
theorem dX5_matchedOf_114 : decode cX5_matchedOf 114 = .ok (.lload 10, 2) := by decide +kernel
theorem dX5_matchedOf_116 : decode cX5_matchedOf 116 = .ok (.goto 4, 3) := by decide +kernel
theorem dX5_matchedOf_119 : decode cX5_matchedOf 119 = .ok (.lconst 0, 1) := by decide +kernel
theorem dX5_matchedOf_120 : decode cX5_matchedOf 120 = .ok (.ladd, 1) := by decide +kernel
theorem dX5_matchedOf_121 : decode cX5_matchedOf 121 = .ok (.ladd, 1) := by decide +kernel
theorem dX5_matchedOf_122 : decode cX5_matchedOf 122 = .ok (.lstore 4, 2) := by decide +kernel
theorem dX5_matchedOf_124 : decode cX5_matchedOf 124 = .ok (.iinc 7 1, 3) := by decide +kernel
theorem dX5_matchedOf_127 : decode cX5_matchedOf 127 = .ok (.goto (-109), 3) := by decide +kernel
theorem dX5_matchedOf_130 : decode cX5_matchedOf 130 = .ok (.iinc 6 1, 3) := by decide +kernel
theorem dX5_matchedOf_133 : decode cX5_matchedOf 133 = .ok (.goto (-127), 3) := by decide +kernel
theorem dX5_matchedOf_136 : decode cX5_matchedOf 136 = .ok (.ldc2_w 150, 3) := by decide +kernel
theorem dX5_matchedOf_139 : decode cX5_matchedOf 139 = .ok (.lload 4, 2) := by decide +kernel
theorem dX5_matchedOf_141 : decode cX5_matchedOf 141 = .ok (.lmul, 1) := by decide +kernel
theorem dX5_matchedOf_142 : decode cX5_matchedOf 142 = .ok (.iload_n 2, 1) := by decide +kernel
theorem dX5_matchedOf_143 : decode cX5_matchedOf 143 = .ok (.iconst 1, 1) := by decide +kernel
theorem dX5_matchedOf_144 : decode cX5_matchedOf 144 = .ok (.if_icmp .ne 9, 3) := by decide +kernel
theorem dX5_matchedOf_147 : decode cX5_matchedOf 147 = .ok (.ldc2_w 152, 3) := by decide +kernel
theorem dX5_matchedOf_150 : decode cX5_matchedOf 150 = .ok (.goto 4, 3) := by decide +kernel
theorem dX5_matchedOf_153 : decode cX5_matchedOf 153 = .ok (.lconst 0, 1) := by decide +kernel
theorem dX5_matchedOf_154 : decode cX5_matchedOf 154 = .ok (.ladd, 1) := by decide +kernel
theorem dX5_matchedOf_155 : decode cX5_matchedOf 155 = .ok (.ldc2_w 154, 3) := by decide +kernel
theorem dX5_matchedOf_158 : decode cX5_matchedOf 158 = .ok (.ldiv, 1) := by decide +kernel
theorem dX5_matchedOf_159 : decode cX5_matchedOf 159 = .ok (.lreturn, 1) := by decide +kernel
theorem dX5_matched_0 : decode cX5_matched 0 = .ok (.aload_n 0, 1) := by decide +kernel
theorem dX5_matched_1 : decode cX5_matched 1 = .ok (.iload_n 1, 1) := by decide +kernel
theorem dX5_matched_2 : decode cX5_matched 2 = .ok (.invokevirtual 138, 3) := by decide +kernel
theorem dX5_matched_5 : decode cX5_matched 5 = .ok (.ifCond .ne 7, 3) := by decide +kernel
theorem dX5_matched_8 : decode cX5_matched 8 = .ok (.ldc2_w 156, 3) := by decide +kernel
theorem dX5_matched_11 : decode cX5_matched 11 = .ok (.lreturn, 1) := by decide +kernel
theorem dX5_matched_12 : decode cX5_matched 12 = .ok (.iload_n 2, 1) := by decide +kernel
theorem dX5_matched_13 : decode cX5_matched 13 = .ok (.iconst 0, 1) := by decide +kernel
theorem dX5_matched_14 : decode cX5_matched 14 = .ok (.iconst 1, 1) := by decide +kernel
theorem dX5_matched_15 : decode cX5_matched 15 = .ok (.invokestatic 55, 3) := by decide +kernel
theorem dX5_matched_18 : decode cX5_matched 18 = .ok (.ifCond .eq 13, 3) := by decide +kernel
theorem dX5_matched_21 : decode cX5_matched 21 = .ok (.aload_n 0, 1) := by decide +kernel
theorem dX5_matched_22 : decode cX5_matched 22 = .ok (.iload_n 1, 1) := by decide +kernel
theorem dX5_matched_23 : decode cX5_matched 23 = .ok (.iload_n 2, 1) := by decide +kernel
theorem dX5_matched_24 : decode cX5_matched 24 = .ok (.iconst 0, 1) := by decide +kernel
theorem dX5_matched_25 : decode cX5_matched 25 = .ok (.invokevirtual 158, 3) := by decide +kernel
theorem dX5_matched_28 : decode cX5_matched 28 = .ok (.goto 6, 3) := by decide +kernel
theorem dX5_matched_31 : decode cX5_matched 31 = .ok (.ldc2_w 162, 3) := by decide +kernel
theorem dX5_matched_34 : decode cX5_matched 34 = .ok (.lreturn, 1) := by decide +kernel
theorem dX5_share_0 : decode cX5_share 0 = .ok (.aload_n 0, 1) := by decide +kernel
theorem dX5_share_1 : decode cX5_share 1 = .ok (.iload_n 1, 1) := by decide +kernel
theorem dX5_share_2 : decode cX5_share 2 = .ok (.invokevirtual 138, 3) := by decide +kernel
theorem dX5_share_5 : decode cX5_share 5 = .ok (.ifCond .ne 7, 3) := by decide +kernel
theorem dX5_share_8 : decode cX5_share 8 = .ok (.ldc2_w 156, 3) := by decide +kernel
theorem dX5_share_11 : decode cX5_share 11 = .ok (.lreturn, 1) := by decide +kernel
theorem dX5_share_12 : decode cX5_share 12 = .ok (.lload_n 2, 1) := by decide +kernel
theorem dX5_share_13 : decode cX5_share 13 = .ok (.lconst 0, 1) := by decide +kernel
theorem dX5_share_14 : decode cX5_share 14 = .ok (.lcmp, 1) := by decide +kernel
theorem dX5_share_15 : decode cX5_share 15 = .ok (.ifCond .lt 11, 3) := by decide +kernel
theorem dX5_share_18 : decode cX5_share 18 = .ok (.lload_n 2, 1) := by decide +kernel
theorem dX5_share_19 : decode cX5_share 19 = .ok (.ldc2_w 164, 3) := by decide +kernel
theorem dX5_share_22 : decode cX5_share 22 = .ok (.lcmp, 1) := by decide +kernel
theorem dX5_share_23 : decode cX5_share 23 = .ok (.ifCond .le 7, 3) := by decide +kernel
theorem dX5_share_26 : decode cX5_share 26 = .ok (.ldc2_w 162, 3) := by decide +kernel
theorem dX5_share_29 : decode cX5_share 29 = .ok (.lreturn, 1) := by decide +kernel
theorem dX5_share_30 : decode cX5_share 30 = .ok (.lconst 0, 1) := by decide +kernel
theorem dX5_share_31 : decode cX5_share 31 = .ok (.lstore 4, 2) := by decide +kernel
theorem dX5_share_33 : decode cX5_share 33 = .ok (.iconst 0, 1) := by decide +kernel
theorem dX5_share_34 : decode cX5_share 34 = .ok (.istore 6, 2) := by decide +kernel
theorem dX5_share_36 : decode cX5_share 36 = .ok (.iload 6, 2) := by decide +kernel
theorem dX5_share_38 : decode cX5_share 38 = .ok (.aload_n 0, 1) := by decide +kernel
theorem dX5_share_39 : decode cX5_share 39 = .ok (.getfield 62, 3) := by decide +kernel
theorem dX5_share_42 : decode cX5_share 42 = .ok (.if_icmp .ge 36, 3) := by decide +kernel
theorem dX5_share_45 : decode cX5_share 45 = .ok (.aload_n 0, 1) := by decide +kernel
theorem dX5_share_46 : decode cX5_share 46 = .ok (.getfield 44, 3) := by decide +kernel
theorem dX5_share_49 : decode cX5_share 49 = .ok (.iload 6, 2) := by decide +kernel
theorem dX5_share_51 : decode cX5_share 51 = .ok (.aload_n 0, 1) := by decide +kernel
theorem dX5_share_52 : decode cX5_share 52 = .ok (.iload 6, 2) := by decide +kernel
theorem dX5_share_54 : decode cX5_share 54 = .ok (.iconst 0, 1) := by decide +kernel
theorem dX5_share_55 : decode cX5_share 55 = .ok (.iconst 0, 1) := by decide +kernel
theorem dX5_share_56 : decode cX5_share 56 = .ok (.invokevirtual 158, 3) := by decide +kernel
theorem dX5_share_59 : decode cX5_share 59 = .ok (.lastore, 1) := by decide +kernel
theorem dX5_share_60 : decode cX5_share 60 = .ok (.lload 4, 2) := by decide +kernel
theorem dX5_share_62 : decode cX5_share 62 = .ok (.aload_n 0, 1) := by decide +kernel
theorem dX5_share_63 : decode cX5_share 63 = .ok (.getfield 44, 3) := by decide +kernel
theorem dX5_share_66 : decode cX5_share 66 = .ok (.iload 6, 2) := by decide +kernel
theorem dX5_share_68 : decode cX5_share 68 = .ok (.laload, 1) := by decide +kernel
theorem dX5_share_69 : decode cX5_share 69 = .ok (.ladd, 1) := by decide +kernel
theorem dX5_share_70 : decode cX5_share 70 = .ok (.lstore 4, 2) := by decide +kernel
theorem dX5_share_72 : decode cX5_share 72 = .ok (.iinc 6 1, 3) := by decide +kernel
theorem dX5_share_75 : decode cX5_share 75 = .ok (.goto (-39), 3) := by decide +kernel
theorem dX5_share_78 : decode cX5_share 78 = .ok (.lload 4, 2) := by decide +kernel
theorem dX5_share_80 : decode cX5_share 80 = .ok (.lconst 0, 1) := by decide +kernel
theorem dX5_share_81 : decode cX5_share 81 = .ok (.lcmp, 1) := by decide +kernel
theorem dX5_share_82 : decode cX5_share 82 = .ok (.ifCond .ne 5, 3) := by decide +kernel
theorem dX5_share_85 : decode cX5_share 85 = .ok (.lconst 0, 1) := by decide +kernel
theorem dX5_share_86 : decode cX5_share 86 = .ok (.lreturn, 1) := by decide +kernel
theorem dX5_share_87 : decode cX5_share 87 = .ok (.lload_n 2, 1) := by decide +kernel
theorem dX5_share_88 : decode cX5_share 88 = .ok (.lstore 6, 2) := by decide +kernel
theorem dX5_share_90 : decode cX5_share 90 = .ok (.iconst 0, 1) := by decide +kernel
theorem dX5_share_91 : decode cX5_share 91 = .ok (.istore 8, 2) := by decide +kernel
theorem dX5_share_93 : decode cX5_share 93 = .ok (.iload 8, 2) := by decide +kernel
theorem dX5_share_95 : decode cX5_share 95 = .ok (.aload_n 0, 1) := by decide +kernel
theorem dX5_share_96 : decode cX5_share 96 = .ok (.getfield 62, 3) := by decide +kernel
theorem dX5_share_99 : decode cX5_share 99 = .ok (.if_icmp .ge 59, 3) := by decide +kernel
theorem dX5_share_102 : decode cX5_share 102 = .ok (.aload_n 0, 1) := by decide +kernel
theorem dX5_share_103 : decode cX5_share 103 = .ok (.getfield 48, 3) := by decide +kernel
theorem dX5_share_106 : decode cX5_share 106 = .ok (.iload 8, 2) := by decide +kernel
theorem dX5_share_108 : decode cX5_share 108 = .ok (.lload_n 2, 1) := by decide +kernel
theorem dX5_share_109 : decode cX5_share 109 = .ok (.aload_n 0, 1) := by decide +kernel
theorem dX5_share_110 : decode cX5_share 110 = .ok (.getfield 44, 3) := by decide +kernel
theorem dX5_share_113 : decode cX5_share 113 = .ok (.iload 8, 2) := by decide +kernel
theorem dX5_share_115 : decode cX5_share 115 = .ok (.laload, 1) := by decide +kernel
theorem dX5_share_116 : decode cX5_share 116 = .ok (.lmul, 1) := by decide +kernel
theorem dX5_share_117 : decode cX5_share 117 = .ok (.lload 4, 2) := by decide +kernel
theorem dX5_share_119 : decode cX5_share 119 = .ok (.lrem, 1) := by decide +kernel
theorem dX5_share_120 : decode cX5_share 120 = .ok (.lastore, 1) := by decide +kernel
theorem dX5_share_121 : decode cX5_share 121 = .ok (.aload_n 0, 1) := by decide +kernel
theorem dX5_share_122 : decode cX5_share 122 = .ok (.getfield 44, 3) := by decide +kernel
theorem dX5_share_125 : decode cX5_share 125 = .ok (.iload 8, 2) := by decide +kernel
theorem dX5_share_127 : decode cX5_share 127 = .ok (.lload_n 2, 1) := by decide +kernel
theorem dX5_share_128 : decode cX5_share 128 = .ok (.aload_n 0, 1) := by decide +kernel
theorem dX5_share_129 : decode cX5_share 129 = .ok (.getfield 44, 3) := by decide +kernel
theorem dX5_share_132 : decode cX5_share 132 = .ok (.iload 8, 2) := by decide +kernel
theorem dX5_share_134 : decode cX5_share 134 = .ok (.laload, 1) := by decide +kernel
theorem dX5_share_135 : decode cX5_share 135 = .ok (.lmul, 1) := by decide +kernel
theorem dX5_share_136 : decode cX5_share 136 = .ok (.lload 4, 2) := by decide +kernel
theorem dX5_share_138 : decode cX5_share 138 = .ok (.ldiv, 1) := by decide +kernel
theorem dX5_share_139 : decode cX5_share 139 = .ok (.lastore, 1) := by decide +kernel
theorem dX5_share_140 : decode cX5_share 140 = .ok (.lload 6, 2) := by decide +kernel
theorem dX5_share_142 : decode cX5_share 142 = .ok (.aload_n 0, 1) := by decide +kernel
theorem dX5_share_143 : decode cX5_share 143 = .ok (.getfield 44, 3) := by decide +kernel
theorem dX5_share_146 : decode cX5_share 146 = .ok (.iload 8, 2) := by decide +kernel
theorem dX5_share_148 : decode cX5_share 148 = .ok (.laload, 1) := by decide +kernel
theorem dX5_share_149 : decode cX5_share 149 = .ok (.lsub, 1) := by decide +kernel
theorem dX5_share_150 : decode cX5_share 150 = .ok (.lstore 6, 2) := by decide +kernel
theorem dX5_share_152 : decode cX5_share 152 = .ok (.iinc 8 1, 3) := by decide +kernel
theorem dX5_share_155 : decode cX5_share 155 = .ok (.goto (-62), 3) := by decide +kernel
theorem dX5_share_158 : decode cX5_share 158 = .ok (.lload 6, 2) := by decide +kernel
theorem dX5_share_160 : decode cX5_share 160 = .ok (.lconst 0, 1) := by decide +kernel
theorem dX5_share_161 : decode cX5_share 161 = .ok (.lcmp, 1) := by decide +kernel
theorem dX5_share_162 : decode cX5_share 162 = .ok (.ifCond .le 81, 3) := by decide +kernel
theorem dX5_share_165 : decode cX5_share 165 = .ok (.iconst 0, 1) := by decide +kernel
theorem dX5_share_166 : decode cX5_share 166 = .ok (.istore 8, 2) := by decide +kernel
theorem dX5_share_168 : decode cX5_share 168 = .ok (.iconst 1, 1) := by decide +kernel
theorem dX5_share_169 : decode cX5_share 169 = .ok (.istore 9, 2) := by decide +kernel
theorem dX5_share_171 : decode cX5_share 171 = .ok (.iload 9, 2) := by decide +kernel
theorem dX5_share_173 : decode cX5_share 173 = .ok (.aload_n 0, 1) := by decide +kernel
theorem dX5_share_174 : decode cX5_share 174 = .ok (.getfield 62, 3) := by decide +kernel
theorem dX5_share_177 : decode cX5_share 177 = .ok (.if_icmp .ge 36, 3) := by decide +kernel
theorem dX5_share_180 : decode cX5_share 180 = .ok (.aload_n 0, 1) := by decide +kernel
theorem dX5_share_181 : decode cX5_share 181 = .ok (.getfield 48, 3) := by decide +kernel
theorem dX5_share_184 : decode cX5_share 184 = .ok (.iload 9, 2) := by decide +kernel
theorem dX5_share_186 : decode cX5_share 186 = .ok (.laload, 1) := by decide +kernel
theorem dX5_share_187 : decode cX5_share 187 = .ok (.aload_n 0, 1) := by decide +kernel
theorem dX5_share_188 : decode cX5_share 188 = .ok (.getfield 48, 3) := by decide +kernel
theorem dX5_share_191 : decode cX5_share 191 = .ok (.iload 8, 2) := by decide +kernel
theorem dX5_share_193 : decode cX5_share 193 = .ok (.laload, 1) := by decide +kernel
theorem dX5_share_194 : decode cX5_share 194 = .ok (.lcmp, 1) := by decide +kernel
theorem dX5_share_195 : decode cX5_share 195 = .ok (.ifCond .le 8, 3) := by decide +kernel
theorem dX5_share_198 : decode cX5_share 198 = .ok (.iload 9, 2) := by decide +kernel
theorem dX5_share_200 : decode cX5_share 200 = .ok (.goto 5, 3) := by decide +kernel
theorem dX5_share_203 : decode cX5_share 203 = .ok (.iload 8, 2) := by decide +kernel
theorem dX5_share_205 : decode cX5_share 205 = .ok (.istore 8, 2) := by decide +kernel
theorem dX5_share_207 : decode cX5_share 207 = .ok (.iinc 9 1, 3) := by decide +kernel
theorem dX5_share_210 : decode cX5_share 210 = .ok (.goto (-39), 3) := by decide +kernel
theorem dX5_share_213 : decode cX5_share 213 = .ok (.aload_n 0, 1) := by decide +kernel
theorem dX5_share_214 : decode cX5_share 214 = .ok (.getfield 48, 3) := by decide +kernel
theorem dX5_share_217 : decode cX5_share 217 = .ok (.iload 8, 2) := by decide +kernel
theorem dX5_share_219 : decode cX5_share 219 = .ok (.ldc2_w 166, 3) := by decide +kernel
theorem dX5_share_222 : decode cX5_share 222 = .ok (.lastore, 1) := by decide +kernel
theorem dX5_share_223 : decode cX5_share 223 = .ok (.aload_n 0, 1) := by decide +kernel
theorem dX5_share_224 : decode cX5_share 224 = .ok (.getfield 44, 3) := by decide +kernel
theorem dX5_share_227 : decode cX5_share 227 = .ok (.iload 8, 2) := by decide +kernel
theorem dX5_share_229 : decode cX5_share 229 = .ok (.dup2, 1) := by decide +kernel
theorem dX5_share_230 : decode cX5_share 230 = .ok (.laload, 1) := by decide +kernel
theorem dX5_share_231 : decode cX5_share 231 = .ok (.lconst 1, 1) := by decide +kernel
theorem dX5_share_232 : decode cX5_share 232 = .ok (.ladd, 1) := by decide +kernel
theorem dX5_share_233 : decode cX5_share 233 = .ok (.lastore, 1) := by decide +kernel
theorem dX5_share_234 : decode cX5_share 234 = .ok (.lload 6, 2) := by decide +kernel
theorem dX5_share_236 : decode cX5_share 236 = .ok (.lconst 1, 1) := by decide +kernel
theorem dX5_share_237 : decode cX5_share 237 = .ok (.lsub, 1) := by decide +kernel
theorem dX5_share_238 : decode cX5_share 238 = .ok (.lstore 6, 2) := by decide +kernel
theorem dX5_share_240 : decode cX5_share 240 = .ok (.goto (-82), 3) := by decide +kernel
theorem dX5_share_243 : decode cX5_share 243 = .ok (.aload_n 0, 1) := by decide +kernel
theorem dX5_share_244 : decode cX5_share 244 = .ok (.getfield 44, 3) := by decide +kernel
theorem dX5_share_247 : decode cX5_share 247 = .ok (.iload_n 1, 1) := by decide +kernel
theorem dX5_share_248 : decode cX5_share 248 = .ok (.laload, 1) := by decide +kernel
theorem dX5_share_249 : decode cX5_share 249 = .ok (.lreturn, 1) := by decide +kernel
theorem dX5_damped_0 : decode cX5_damped 0 = .ok (.aload_n 0, 1) := by decide +kernel
theorem dX5_damped_1 : decode cX5_damped 1 = .ok (.iload_n 1, 1) := by decide +kernel
theorem dX5_damped_2 : decode cX5_damped 2 = .ok (.invokevirtual 138, 3) := by decide +kernel
theorem dX5_damped_5 : decode cX5_damped 5 = .ok (.ifCond .eq 21, 3) := by decide +kernel
theorem dX5_damped_8 : decode cX5_damped 8 = .ok (.aload_n 0, 1) := by decide +kernel
theorem dX5_damped_9 : decode cX5_damped 9 = .ok (.iload_n 1, 1) := by decide +kernel
theorem dX5_damped_10 : decode cX5_damped 10 = .ok (.iconst 0, 1) := by decide +kernel
theorem dX5_damped_11 : decode cX5_damped 11 = .ok (.iconst 1, 1) := by decide +kernel
theorem dX5_damped_12 : decode cX5_damped 12 = .ok (.invokevirtual 158, 3) := by decide +kernel
theorem dX5_damped_15 : decode cX5_damped 15 = .ok (.aload_n 0, 1) := by decide +kernel
theorem dX5_damped_16 : decode cX5_damped 16 = .ok (.iload_n 1, 1) := by decide +kernel
theorem dX5_damped_17 : decode cX5_damped 17 = .ok (.iconst 0, 1) := by decide +kernel
theorem dX5_damped_18 : decode cX5_damped 18 = .ok (.iconst 0, 1) := by decide +kernel
theorem dX5_damped_19 : decode cX5_damped 19 = .ok (.invokevirtual 158, 3) := by decide +kernel
theorem dX5_damped_22 : decode cX5_damped 22 = .ok (.lsub, 1) := by decide +kernel
theorem dX5_damped_23 : decode cX5_damped 23 = .ok (.goto 6, 3) := by decide +kernel
theorem dX5_damped_26 : decode cX5_damped 26 = .ok (.ldc2_w 156, 3) := by decide +kernel
theorem dX5_damped_29 : decode cX5_damped 29 = .ok (.lreturn, 1) := by decide +kernel
theorem dX5_likenessOf_0 : decode cX5_likenessOf 0 = .ok (.lconst 0, 1) := by decide +kernel
theorem dX5_likenessOf_1 : decode cX5_likenessOf 1 = .ok (.lstore_n 3, 1) := by decide +kernel
theorem dX5_likenessOf_2 : decode cX5_likenessOf 2 = .ok (.iconst 0, 1) := by decide +kernel
theorem dX5_likenessOf_3 : decode cX5_likenessOf 3 = .ok (.istore 5, 2) := by decide +kernel
theorem dX5_likenessOf_5 : decode cX5_likenessOf 5 = .ok (.iload 5, 2) := by decide +kernel
theorem dX5_likenessOf_7 : decode cX5_likenessOf 7 = .ok (.aload_n 0, 1) := by decide +kernel
theorem dX5_likenessOf_8 : decode cX5_likenessOf 8 = .ok (.getfield 59, 3) := by decide +kernel
theorem dX5_likenessOf_11 : decode cX5_likenessOf 11 = .ok (.if_icmp .ge 38, 3) := by decide +kernel
theorem dX5_likenessOf_14 : decode cX5_likenessOf 14 = .ok (.lload_n 3, 1) := by decide +kernel
theorem dX5_likenessOf_15 : decode cX5_likenessOf 15 = .ok (.aload_n 0, 1) := by decide +kernel
theorem dX5_likenessOf_16 : decode cX5_likenessOf 16 = .ok (.getfield 17, 3) := by decide +kernel
theorem dX5_likenessOf_19 : decode cX5_likenessOf 19 = .ok (.bipush 6, 2) := by decide +kernel
theorem dX5_likenessOf_21 : decode cX5_likenessOf 21 = .ok (.iload_n 1, 1) := by decide +kernel
theorem dX5_likenessOf_22 : decode cX5_likenessOf 22 = .ok (.imul, 1) := by decide +kernel
theorem dX5_likenessOf_23 : decode cX5_likenessOf 23 = .ok (.iload 5, 2) := by decide +kernel
theorem dX5_likenessOf_25 : decode cX5_likenessOf 25 = .ok (.iadd, 1) := by decide +kernel
theorem dX5_likenessOf_26 : decode cX5_likenessOf 26 = .ok (.iaload, 1) := by decide +kernel
theorem dX5_likenessOf_27 : decode cX5_likenessOf 27 = .ok (.aload_n 0, 1) := by decide +kernel
theorem dX5_likenessOf_28 : decode cX5_likenessOf 28 = .ok (.getfield 17, 3) := by decide +kernel
theorem dX5_likenessOf_31 : decode cX5_likenessOf 31 = .ok (.bipush 6, 2) := by decide +kernel
theorem dX5_likenessOf_33 : decode cX5_likenessOf 33 = .ok (.iload_n 2, 1) := by decide +kernel
theorem dX5_likenessOf_34 : decode cX5_likenessOf 34 = .ok (.imul, 1) := by decide +kernel
theorem dX5_likenessOf_35 : decode cX5_likenessOf 35 = .ok (.iload 5, 2) := by decide +kernel
theorem dX5_likenessOf_37 : decode cX5_likenessOf 37 = .ok (.iadd, 1) := by decide +kernel
theorem dX5_likenessOf_38 : decode cX5_likenessOf 38 = .ok (.iaload, 1) := by decide +kernel
theorem dX5_likenessOf_39 : decode cX5_likenessOf 39 = .ok (.imul, 1) := by decide +kernel
theorem dX5_likenessOf_40 : decode cX5_likenessOf 40 = .ok (.i2l, 1) := by decide +kernel
theorem dX5_likenessOf_41 : decode cX5_likenessOf 41 = .ok (.ladd, 1) := by decide +kernel
theorem dX5_likenessOf_42 : decode cX5_likenessOf 42 = .ok (.lstore_n 3, 1) := by decide +kernel
theorem dX5_likenessOf_43 : decode cX5_likenessOf 43 = .ok (.iinc 5 1, 3) := by decide +kernel
theorem dX5_likenessOf_46 : decode cX5_likenessOf 46 = .ok (.goto (-41), 3) := by decide +kernel
theorem dX5_likenessOf_49 : decode cX5_likenessOf 49 = .ok (.aload_n 0, 1) := by decide +kernel
theorem dX5_likenessOf_50 : decode cX5_likenessOf 50 = .ok (.iload_n 1, 1) := by decide +kernel
theorem dX5_likenessOf_51 : decode cX5_likenessOf 51 = .ok (.invokevirtual 75, 3) := by decide +kernel
theorem dX5_likenessOf_54 : decode cX5_likenessOf 54 = .ok (.i2l, 1) := by decide +kernel
theorem dX5_likenessOf_55 : decode cX5_likenessOf 55 = .ok (.aload_n 0, 1) := by decide +kernel
theorem dX5_likenessOf_56 : decode cX5_likenessOf 56 = .ok (.iload_n 2, 1) := by decide +kernel
theorem dX5_likenessOf_57 : decode cX5_likenessOf 57 = .ok (.invokevirtual 75, 3) := by decide +kernel
theorem dX5_likenessOf_60 : decode cX5_likenessOf 60 = .ok (.i2l, 1) := by decide +kernel
theorem dX5_likenessOf_61 : decode cX5_likenessOf 61 = .ok (.lmul, 1) := by decide +kernel
theorem dX5_likenessOf_62 : decode cX5_likenessOf 62 = .ok (.lstore 5, 2) := by decide +kernel
theorem dX5_likenessOf_64 : decode cX5_likenessOf 64 = .ok (.lload 5, 2) := by decide +kernel
theorem dX5_likenessOf_66 : decode cX5_likenessOf 66 = .ok (.lconst 0, 1) := by decide +kernel
theorem dX5_likenessOf_67 : decode cX5_likenessOf 67 = .ok (.lcmp, 1) := by decide +kernel
theorem dX5_likenessOf_68 : decode cX5_likenessOf 68 = .ok (.ifCond .ne 7, 3) := by decide +kernel
theorem dX5_likenessOf_71 : decode cX5_likenessOf 71 = .ok (.sipush (-2000), 3) := by decide +kernel
theorem dX5_likenessOf_74 : decode cX5_likenessOf 74 = .ok (.ireturn, 1) := by decide +kernel
theorem dX5_likenessOf_75 : decode cX5_likenessOf 75 = .ok (.lload_n 3, 1) := by decide +kernel
theorem dX5_likenessOf_76 : decode cX5_likenessOf 76 = .ok (.lload_n 3, 1) := by decide +kernel
theorem dX5_likenessOf_77 : decode cX5_likenessOf 77 = .ok (.lmul, 1) := by decide +kernel
theorem dX5_likenessOf_78 : decode cX5_likenessOf 78 = .ok (.ldc2_w 144, 3) := by decide +kernel
theorem dX5_likenessOf_81 : decode cX5_likenessOf 81 = .ok (.lmul, 1) := by decide +kernel
theorem dX5_likenessOf_82 : decode cX5_likenessOf 82 = .ok (.lload 5, 2) := by decide +kernel
theorem dX5_likenessOf_84 : decode cX5_likenessOf 84 = .ok (.ldiv, 1) := by decide +kernel
theorem dX5_likenessOf_85 : decode cX5_likenessOf 85 = .ok (.l2i, 1) := by decide +kernel
theorem dX5_likenessOf_86 : decode cX5_likenessOf 86 = .ok (.istore 7, 2) := by decide +kernel
theorem dX5_likenessOf_88 : decode cX5_likenessOf 88 = .ok (.lload_n 3, 1) := by decide +kernel
theorem dX5_likenessOf_89 : decode cX5_likenessOf 89 = .ok (.lconst 0, 1) := by decide +kernel
theorem dX5_likenessOf_90 : decode cX5_likenessOf 90 = .ok (.lcmp, 1) := by decide +kernel
theorem dX5_likenessOf_91 : decode cX5_likenessOf 91 = .ok (.ifCond .ge 9, 3) := by decide +kernel
theorem dX5_likenessOf_94 : decode cX5_likenessOf 94 = .ok (.iload 7, 2) := by decide +kernel
theorem dX5_likenessOf_96 : decode cX5_likenessOf 96 = .ok (.ineg, 1) := by decide +kernel
theorem dX5_likenessOf_97 : decode cX5_likenessOf 97 = .ok (.goto 5, 3) := by decide +kernel
theorem dX5_likenessOf_100 : decode cX5_likenessOf 100 = .ok (.iload 7, 2) := by decide +kernel
theorem dX5_likenessOf_102 : decode cX5_likenessOf 102 = .ok (.ireturn, 1) := by decide +kernel
theorem dX5_likeness_0 : decode cX5_likeness 0 = .ok (.aload_n 0, 1) := by decide +kernel
theorem dX5_likeness_1 : decode cX5_likeness 1 = .ok (.iload_n 1, 1) := by decide +kernel
theorem dX5_likeness_2 : decode cX5_likeness 2 = .ok (.invokevirtual 68, 3) := by decide +kernel
theorem dX5_likeness_5 : decode cX5_likeness 5 = .ok (.ifCond .eq 20, 3) := by decide +kernel
theorem dX5_likeness_8 : decode cX5_likeness 8 = .ok (.aload_n 0, 1) := by decide +kernel
theorem dX5_likeness_9 : decode cX5_likeness 9 = .ok (.iload_n 2, 1) := by decide +kernel
theorem dX5_likeness_10 : decode cX5_likeness 10 = .ok (.invokevirtual 68, 3) := by decide +kernel
theorem dX5_likeness_13 : decode cX5_likeness 13 = .ok (.ifCond .eq 12, 3) := by decide +kernel
theorem dX5_likeness_16 : decode cX5_likeness 16 = .ok (.aload_n 0, 1) := by decide +kernel
theorem dX5_likeness_17 : decode cX5_likeness 17 = .ok (.iload_n 1, 1) := by decide +kernel
theorem dX5_likeness_18 : decode cX5_likeness 18 = .ok (.iload_n 2, 1) := by decide +kernel
theorem dX5_likeness_19 : decode cX5_likeness 19 = .ok (.invokevirtual 168, 3) := by decide +kernel
theorem dX5_likeness_22 : decode cX5_likeness 22 = .ok (.goto 6, 3) := by decide +kernel
theorem dX5_likeness_25 : decode cX5_likeness 25 = .ok (.sipush (-2001), 3) := by decide +kernel
theorem dX5_likeness_28 : decode cX5_likeness 28 = .ok (.ireturn, 1) := by decide +kernel
theorem dX5_group_0 : decode cX5_group 0 = .ok (.aload_n 0, 1) := by decide +kernel
theorem dX5_group_1 : decode cX5_group 1 = .ok (.iload_n 1, 1) := by decide +kernel
theorem dX5_group_2 : decode cX5_group 2 = .ok (.invokevirtual 68, 3) := by decide +kernel
theorem dX5_group_5 : decode cX5_group 5 = .ok (.ifCond .ne 6, 3) := by decide +kernel
theorem dX5_group_8 : decode cX5_group 8 = .ok (.bipush (-101), 2) := by decide +kernel
theorem dX5_group_10 : decode cX5_group 10 = .ok (.ireturn, 1) := by decide +kernel
theorem dX5_group_11 : decode cX5_group 11 = .ok (.iload_n 2, 1) := by decide +kernel
theorem dX5_group_12 : decode cX5_group 12 = .ok (.iconst 1, 1) := by decide +kernel
theorem dX5_group_13 : decode cX5_group 13 = .ok (.sipush 1000, 3) := by decide +kernel
theorem dX5_group_16 : decode cX5_group 16 = .ok (.invokestatic 55, 3) := by decide +kernel
theorem dX5_group_19 : decode cX5_group 19 = .ok (.ifCond .ne 6, 3) := by decide +kernel
theorem dX5_group_22 : decode cX5_group 22 = .ok (.bipush (-102), 2) := by decide +kernel
theorem dX5_group_24 : decode cX5_group 24 = .ok (.ireturn, 1) := by decide +kernel
theorem dX5_group_25 : decode cX5_group 25 = .ok (.iconst 1, 1) := by decide +kernel
theorem dX5_group_26 : decode cX5_group 26 = .ok (.iload_n 1, 1) := by decide +kernel
theorem dX5_group_27 : decode cX5_group 27 = .ok (.ishl, 1) := by decide +kernel
theorem dX5_group_28 : decode cX5_group 28 = .ok (.istore_n 3, 1) := by decide +kernel
theorem dX5_group_29 : decode cX5_group 29 = .ok (.iconst 0, 1) := by decide +kernel
theorem dX5_group_30 : decode cX5_group 30 = .ok (.istore 4, 2) := by decide +kernel
theorem dX5_group_32 : decode cX5_group 32 = .ok (.iload_n 3, 1) := by decide +kernel
theorem dX5_group_33 : decode cX5_group 33 = .ok (.iload 4, 2) := by decide +kernel
theorem dX5_group_35 : decode cX5_group 35 = .ok (.if_icmp .eq 78, 3) := by decide +kernel
theorem dX5_group_38 : decode cX5_group 38 = .ok (.iload_n 3, 1) := by decide +kernel
theorem dX5_group_39 : decode cX5_group 39 = .ok (.istore 4, 2) := by decide +kernel
theorem dX5_group_41 : decode cX5_group 41 = .ok (.iconst 0, 1) := by decide +kernel
theorem dX5_group_42 : decode cX5_group 42 = .ok (.istore 5, 2) := by decide +kernel
theorem dX5_group_44 : decode cX5_group 44 = .ok (.iload 5, 2) := by decide +kernel
theorem dX5_group_46 : decode cX5_group 46 = .ok (.aload_n 0, 1) := by decide +kernel
theorem dX5_group_47 : decode cX5_group 47 = .ok (.getfield 51, 3) := by decide +kernel
theorem dX5_group_50 : decode cX5_group 50 = .ok (.if_icmp .ge 60, 3) := by decide +kernel
theorem dX5_group_53 : decode cX5_group 53 = .ok (.iconst 0, 1) := by decide +kernel
theorem dX5_group_54 : decode cX5_group 54 = .ok (.istore 6, 2) := by decide +kernel
theorem dX5_group_56 : decode cX5_group 56 = .ok (.iload 6, 2) := by decide +kernel
theorem dX5_group_58 : decode cX5_group 58 = .ok (.aload_n 0, 1) := by decide +kernel
theorem dX5_group_59 : decode cX5_group 59 = .ok (.getfield 51, 3) := by decide +kernel
theorem dX5_group_62 : decode cX5_group 62 = .ok (.if_icmp .ge 42, 3) := by decide +kernel
theorem dX5_group_65 : decode cX5_group 65 = .ok (.iload_n 3, 1) := by decide +kernel
theorem dX5_group_66 : decode cX5_group 66 = .ok (.iload_n 3, 1) := by decide +kernel
theorem dX5_group_67 : decode cX5_group 67 = .ok (.iload 5, 2) := by decide +kernel
theorem dX5_group_69 : decode cX5_group 69 = .ok (.ishr, 1) := by decide +kernel
theorem dX5_group_70 : decode cX5_group 70 = .ok (.iconst 1, 1) := by decide +kernel
theorem dX5_group_71 : decode cX5_group 71 = .ok (.iand, 1) := by decide +kernel
theorem dX5_group_72 : decode cX5_group 72 = .ok (.iconst 1, 1) := by decide +kernel
theorem dX5_group_73 : decode cX5_group 73 = .ok (.if_icmp .ne 22, 3) := by decide +kernel
theorem dX5_group_76 : decode cX5_group 76 = .ok (.aload_n 0, 1) := by decide +kernel
theorem dX5_group_77 : decode cX5_group 77 = .ok (.iload 5, 2) := by decide +kernel
theorem dX5_group_79 : decode cX5_group 79 = .ok (.iload 6, 2) := by decide +kernel
theorem dX5_group_81 : decode cX5_group 81 = .ok (.invokevirtual 168, 3) := by decide +kernel
theorem dX5_group_84 : decode cX5_group 84 = .ok (.iload_n 2, 1) := by decide +kernel
theorem dX5_group_85 : decode cX5_group 85 = .ok (.if_icmp .lt 10, 3) := by decide +kernel
theorem dX5_group_88 : decode cX5_group 88 = .ok (.iconst 1, 1) := by decide +kernel
theorem dX5_group_89 : decode cX5_group 89 = .ok (.iload 6, 2) := by decide +kernel
theorem dX5_group_91 : decode cX5_group 91 = .ok (.ishl, 1) := by decide +kernel
theorem dX5_group_92 : decode cX5_group 92 = .ok (.goto 4, 3) := by decide +kernel
theorem dX5_group_95 : decode cX5_group 95 = .ok (.iconst 0, 1) := by decide +kernel
theorem dX5_group_96 : decode cX5_group 96 = .ok (.ior, 1) := by decide +kernel
theorem dX5_group_97 : decode cX5_group 97 = .ok (.istore_n 3, 1) := by decide +kernel
theorem dX5_group_98 : decode cX5_group 98 = .ok (.iinc 6 1, 3) := by decide +kernel
theorem dX5_group_101 : decode cX5_group 101 = .ok (.goto (-45), 3) := by decide +kernel
theorem dX5_group_104 : decode cX5_group 104 = .ok (.iinc 5 1, 3) := by decide +kernel
theorem dX5_group_107 : decode cX5_group 107 = .ok (.goto (-63), 3) := by decide +kernel
theorem dX5_group_110 : decode cX5_group 110 = .ok (.goto (-78), 3) := by decide +kernel
theorem dX5_group_113 : decode cX5_group 113 = .ok (.iload_n 3, 1) := by decide +kernel
theorem dX5_group_114 : decode cX5_group 114 = .ok (.ireturn, 1) := by decide +kernel
theorem dX5_count_0 : decode cX5_count 0 = .ok (.iconst 0, 1) := by decide +kernel
theorem dX5_count_1 : decode cX5_count 1 = .ok (.istore_n 2, 1) := by decide +kernel
theorem dX5_count_2 : decode cX5_count 2 = .ok (.iload_n 1, 1) := by decide +kernel
theorem dX5_count_3 : decode cX5_count 3 = .ok (.tableswitch 97 0 5 #[37, 42, 47, 52, 87, 92], 37) := by decide +kernel
theorem dX5_count_40 : decode cX5_count 40 = .ok (.aload_n 0, 1) := by decide +kernel
theorem dX5_count_41 : decode cX5_count 41 = .ok (.getfield 51, 3) := by decide +kernel
theorem dX5_count_44 : decode cX5_count 44 = .ok (.ireturn, 1) := by decide +kernel
theorem dX5_count_45 : decode cX5_count 45 = .ok (.aload_n 0, 1) := by decide +kernel
theorem dX5_count_46 : decode cX5_count 46 = .ok (.getfield 59, 3) := by decide +kernel
theorem dX5_count_49 : decode cX5_count 49 = .ok (.ireturn, 1) := by decide +kernel
theorem dX5_count_50 : decode cX5_count 50 = .ok (.aload_n 0, 1) := by decide +kernel
theorem dX5_count_51 : decode cX5_count 51 = .ok (.getfield 62, 3) := by decide +kernel
theorem dX5_count_54 : decode cX5_count 54 = .ok (.ireturn, 1) := by decide +kernel
theorem dX5_count_55 : decode cX5_count 55 = .ok (.iconst 0, 1) := by decide +kernel
theorem dX5_count_56 : decode cX5_count 56 = .ok (.istore_n 3, 1) := by decide +kernel
theorem dX5_count_57 : decode cX5_count 57 = .ok (.iload_n 3, 1) := by decide +kernel
theorem dX5_count_58 : decode cX5_count 58 = .ok (.aload_n 0, 1) := by decide +kernel
theorem dX5_count_59 : decode cX5_count 59 = .ok (.getfield 51, 3) := by decide +kernel
theorem dX5_count_62 : decode cX5_count 62 = .ok (.if_icmp .ge 26, 3) := by decide +kernel
theorem dX5_count_65 : decode cX5_count 65 = .ok (.iload_n 2, 1) := by decide +kernel
theorem dX5_count_66 : decode cX5_count 66 = .ok (.aload_n 0, 1) := by decide +kernel
theorem dX5_count_67 : decode cX5_count 67 = .ok (.getfield 13, 3) := by decide +kernel
theorem dX5_count_70 : decode cX5_count 70 = .ok (.iload_n 3, 1) := by decide +kernel
theorem dX5_count_71 : decode cX5_count 71 = .ok (.baload, 1) := by decide +kernel
theorem dX5_count_72 : decode cX5_count 72 = .ok (.ifCond .eq 7, 3) := by decide +kernel
theorem dX5_count_75 : decode cX5_count 75 = .ok (.iconst 1, 1) := by decide +kernel
theorem dX5_count_76 : decode cX5_count 76 = .ok (.goto 4, 3) := by decide +kernel
theorem dX5_count_79 : decode cX5_count 79 = .ok (.iconst 0, 1) := by decide +kernel
theorem dX5_count_80 : decode cX5_count 80 = .ok (.iadd, 1) := by decide +kernel
theorem dX5_count_81 : decode cX5_count 81 = .ok (.istore_n 2, 1) := by decide +kernel
theorem dX5_count_82 : decode cX5_count 82 = .ok (.iinc 3 1, 3) := by decide +kernel
theorem dX5_count_85 : decode cX5_count 85 = .ok (.goto (-28), 3) := by decide +kernel
theorem dX5_count_88 : decode cX5_count 88 = .ok (.iload_n 2, 1) := by decide +kernel
theorem dX5_count_89 : decode cX5_count 89 = .ok (.ireturn, 1) := by decide +kernel
theorem dX5_count_90 : decode cX5_count 90 = .ok (.aload_n 0, 1) := by decide +kernel
theorem dX5_count_91 : decode cX5_count 91 = .ok (.getfield 129, 3) := by decide +kernel
theorem dX5_count_94 : decode cX5_count 94 = .ok (.ireturn, 1) := by decide +kernel
theorem dX5_count_95 : decode cX5_count 95 = .ok (.aload_n 0, 1) := by decide +kernel
theorem dX5_count_96 : decode cX5_count 96 = .ok (.getfield 132, 3) := by decide +kernel
theorem dX5_count_99 : decode cX5_count 99 = .ok (.ireturn, 1) := by decide +kernel
theorem dX5_count_100 : decode cX5_count 100 = .ok (.bipush (-102), 2) := by decide +kernel
theorem dX5_count_102 : decode cX5_count 102 = .ok (.ireturn, 1) := by decide +kernel
theorem dX5_mix_0 : decode cX5_mix 0 = .ok (.aload_n 0, 1) := by decide +kernel
theorem dX5_mix_1 : decode cX5_mix 1 = .ok (.ldc2_w 171, 3) := by decide +kernel
theorem dX5_mix_4 : decode cX5_mix 4 = .ok (.aload_n 0, 1) := by decide +kernel
theorem dX5_mix_5 : decode cX5_mix 5 = .ok (.getfield 173, 3) := by decide +kernel
theorem dX5_mix_8 : decode cX5_mix 8 = .ok (.lmul, 1) := by decide +kernel
theorem dX5_mix_9 : decode cX5_mix 9 = .ok (.lload_n 1, 1) := by decide +kernel
theorem dX5_mix_10 : decode cX5_mix 10 = .ok (.ladd, 1) := by decide +kernel
theorem dX5_mix_11 : decode cX5_mix 11 = .ok (.putfield 173, 3) := by decide +kernel
theorem dX5_mix_14 : decode cX5_mix 14 = .ok (.return_, 1) := by decide +kernel
theorem dX5_digest_0 : decode cX5_digest 0 = .ok (.aload_n 0, 1) := by decide +kernel
theorem dX5_digest_1 : decode cX5_digest 1 = .ok (.ldc2_w 177, 3) := by decide +kernel
theorem dX5_digest_4 : decode cX5_digest 4 = .ok (.putfield 173, 3) := by decide +kernel
theorem dX5_digest_7 : decode cX5_digest 7 = .ok (.iconst 0, 1) := by decide +kernel
theorem dX5_digest_8 : decode cX5_digest 8 = .ok (.istore_n 1, 1) := by decide +kernel
theorem dX5_digest_9 : decode cX5_digest 9 = .ok (.iload_n 1, 1) := by decide +kernel
theorem dX5_digest_10 : decode cX5_digest 10 = .ok (.aload_n 0, 1) := by decide +kernel
theorem dX5_digest_11 : decode cX5_digest 11 = .ok (.getfield 51, 3) := by decide +kernel
theorem dX5_digest_14 : decode cX5_digest 14 = .ok (.if_icmp .ge 163, 3) := by decide +kernel
theorem dX5_digest_17 : decode cX5_digest 17 = .ok (.aload_n 0, 1) := by decide +kernel
theorem dX5_digest_18 : decode cX5_digest 18 = .ok (.aload_n 0, 1) := by decide +kernel
theorem dX5_digest_19 : decode cX5_digest 19 = .ok (.getfield 7, 3) := by decide +kernel
theorem dX5_digest_22 : decode cX5_digest 22 = .ok (.iload_n 1, 1) := by decide +kernel
theorem dX5_digest_23 : decode cX5_digest 23 = .ok (.iaload, 1) := by decide +kernel
theorem dX5_digest_24 : decode cX5_digest 24 = .ok (.i2l, 1) := by decide +kernel
theorem dX5_digest_25 : decode cX5_digest 25 = .ok (.invokevirtual 179, 3) := by decide +kernel
theorem dX5_digest_28 : decode cX5_digest 28 = .ok (.aload_n 0, 1) := by decide +kernel
theorem dX5_digest_29 : decode cX5_digest 29 = .ok (.aload_n 0, 1) := by decide +kernel
theorem dX5_digest_30 : decode cX5_digest 30 = .ok (.getfield 13, 3) := by decide +kernel
theorem dX5_digest_33 : decode cX5_digest 33 = .ok (.iload_n 1, 1) := by decide +kernel
theorem dX5_digest_34 : decode cX5_digest 34 = .ok (.baload, 1) := by decide +kernel
theorem dX5_digest_35 : decode cX5_digest 35 = .ok (.ifCond .eq 7, 3) := by decide +kernel
theorem dX5_digest_38 : decode cX5_digest 38 = .ok (.lconst 1, 1) := by decide +kernel
theorem dX5_digest_39 : decode cX5_digest 39 = .ok (.goto 4, 3) := by decide +kernel
theorem dX5_digest_42 : decode cX5_digest 42 = .ok (.lconst 0, 1) := by decide +kernel
theorem dX5_digest_43 : decode cX5_digest 43 = .ok (.invokevirtual 179, 3) := by decide +kernel
theorem dX5_digest_46 : decode cX5_digest 46 = .ok (.iconst 0, 1) := by decide +kernel
theorem dX5_digest_47 : decode cX5_digest 47 = .ok (.istore_n 2, 1) := by decide +kernel
theorem dX5_digest_48 : decode cX5_digest 48 = .ok (.iload_n 2, 1) := by decide +kernel
theorem dX5_digest_49 : decode cX5_digest 49 = .ok (.aload_n 0, 1) := by decide +kernel
theorem dX5_digest_50 : decode cX5_digest 50 = .ok (.getfield 59, 3) := by decide +kernel
theorem dX5_digest_53 : decode cX5_digest 53 = .ok (.if_icmp .ge 25, 3) := by decide +kernel
theorem dX5_digest_56 : decode cX5_digest 56 = .ok (.aload_n 0, 1) := by decide +kernel
theorem dX5_digest_57 : decode cX5_digest 57 = .ok (.aload_n 0, 1) := by decide +kernel
theorem dX5_digest_58 : decode cX5_digest 58 = .ok (.getfield 17, 3) := by decide +kernel
theorem dX5_digest_61 : decode cX5_digest 61 = .ok (.bipush 6, 2) := by decide +kernel
theorem dX5_digest_63 : decode cX5_digest 63 = .ok (.iload_n 1, 1) := by decide +kernel
theorem dX5_digest_64 : decode cX5_digest 64 = .ok (.imul, 1) := by decide +kernel
theorem dX5_digest_65 : decode cX5_digest 65 = .ok (.iload_n 2, 1) := by decide +kernel
theorem dX5_digest_66 : decode cX5_digest 66 = .ok (.iadd, 1) := by decide +kernel
theorem dX5_digest_67 : decode cX5_digest 67 = .ok (.iaload, 1) := by decide +kernel
theorem dX5_digest_68 : decode cX5_digest 68 = .ok (.i2l, 1) := by decide +kernel
theorem dX5_digest_69 : decode cX5_digest 69 = .ok (.invokevirtual 179, 3) := by decide +kernel
theorem dX5_digest_72 : decode cX5_digest 72 = .ok (.iinc 2 1, 3) := by decide +kernel
theorem dX5_digest_75 : decode cX5_digest 75 = .ok (.goto (-27), 3) := by decide +kernel
theorem dX5_digest_78 : decode cX5_digest 78 = .ok (.iconst 0, 1) := by decide +kernel
theorem dX5_digest_79 : decode cX5_digest 79 = .ok (.istore_n 2, 1) := by decide +kernel
theorem dX5_digest_80 : decode cX5_digest 80 = .ok (.iload_n 2, 1) := by decide +kernel
theorem dX5_digest_81 : decode cX5_digest 81 = .ok (.aload_n 0, 1) := by decide +kernel
theorem dX5_digest_82 : decode cX5_digest 82 = .ok (.getfield 59, 3) := by decide +kernel
theorem dX5_digest_85 : decode cX5_digest 85 = .ok (.if_icmp .ge 25, 3) := by decide +kernel
theorem dX5_digest_88 : decode cX5_digest 88 = .ok (.aload_n 0, 1) := by decide +kernel
theorem dX5_digest_89 : decode cX5_digest 89 = .ok (.aload_n 0, 1) := by decide +kernel
theorem dX5_digest_90 : decode cX5_digest 90 = .ok (.getfield 20, 3) := by decide +kernel
theorem dX5_digest_93 : decode cX5_digest 93 = .ok (.bipush 6, 2) := by decide +kernel
theorem dX5_digest_95 : decode cX5_digest 95 = .ok (.iload_n 1, 1) := by decide +kernel
theorem dX5_digest_96 : decode cX5_digest 96 = .ok (.imul, 1) := by decide +kernel
theorem dX5_digest_97 : decode cX5_digest 97 = .ok (.iload_n 2, 1) := by decide +kernel
theorem dX5_digest_98 : decode cX5_digest 98 = .ok (.iadd, 1) := by decide +kernel
theorem dX5_digest_99 : decode cX5_digest 99 = .ok (.iaload, 1) := by decide +kernel
theorem dX5_digest_100 : decode cX5_digest 100 = .ok (.i2l, 1) := by decide +kernel
theorem dX5_digest_101 : decode cX5_digest 101 = .ok (.invokevirtual 179, 3) := by decide +kernel
theorem dX5_digest_104 : decode cX5_digest 104 = .ok (.iinc 2 1, 3) := by decide +kernel
theorem dX5_digest_107 : decode cX5_digest 107 = .ok (.goto (-27), 3) := by decide +kernel
theorem dX5_digest_110 : decode cX5_digest 110 = .ok (.iconst 0, 1) := by decide +kernel
theorem dX5_digest_111 : decode cX5_digest 111 = .ok (.istore_n 2, 1) := by decide +kernel
theorem dX5_digest_112 : decode cX5_digest 112 = .ok (.iload_n 2, 1) := by decide +kernel
theorem dX5_digest_113 : decode cX5_digest 113 = .ok (.aload_n 0, 1) := by decide +kernel
theorem dX5_digest_114 : decode cX5_digest 114 = .ok (.getfield 62, 3) := by decide +kernel
theorem dX5_digest_117 : decode cX5_digest 117 = .ok (.if_icmp .ge 25, 3) := by decide +kernel
theorem dX5_digest_120 : decode cX5_digest 120 = .ok (.aload_n 0, 1) := by decide +kernel
theorem dX5_digest_121 : decode cX5_digest 121 = .ok (.aload_n 0, 1) := by decide +kernel
theorem dX5_digest_122 : decode cX5_digest 122 = .ok (.getfield 23, 3) := by decide +kernel
theorem dX5_digest_125 : decode cX5_digest 125 = .ok (.bipush 6, 2) := by decide +kernel
theorem dX5_digest_127 : decode cX5_digest 127 = .ok (.iload_n 1, 1) := by decide +kernel
theorem dX5_digest_128 : decode cX5_digest 128 = .ok (.imul, 1) := by decide +kernel
theorem dX5_digest_129 : decode cX5_digest 129 = .ok (.iload_n 2, 1) := by decide +kernel
theorem dX5_digest_130 : decode cX5_digest 130 = .ok (.iadd, 1) := by decide +kernel
theorem dX5_digest_131 : decode cX5_digest 131 = .ok (.iaload, 1) := by decide +kernel
theorem dX5_digest_132 : decode cX5_digest 132 = .ok (.i2l, 1) := by decide +kernel
theorem dX5_digest_133 : decode cX5_digest 133 = .ok (.invokevirtual 179, 3) := by decide +kernel
theorem dX5_digest_136 : decode cX5_digest 136 = .ok (.iinc 2 1, 3) := by decide +kernel
theorem dX5_digest_139 : decode cX5_digest 139 = .ok (.goto (-27), 3) := by decide +kernel
theorem dX5_digest_142 : decode cX5_digest 142 = .ok (.iconst 0, 1) := by decide +kernel
theorem dX5_digest_143 : decode cX5_digest 143 = .ok (.istore_n 2, 1) := by decide +kernel
theorem dX5_digest_144 : decode cX5_digest 144 = .ok (.iload_n 2, 1) := by decide +kernel
theorem dX5_digest_145 : decode cX5_digest 145 = .ok (.iload_n 1, 1) := by decide +kernel
theorem dX5_digest_146 : decode cX5_digest 146 = .ok (.if_icmp .ge 25, 3) := by decide +kernel
theorem dX5_digest_149 : decode cX5_digest 149 = .ok (.aload_n 0, 1) := by decide +kernel
theorem dX5_digest_150 : decode cX5_digest 150 = .ok (.aload_n 0, 1) := by decide +kernel
theorem dX5_digest_151 : decode cX5_digest 151 = .ok (.getfield 26, 3) := by decide +kernel
theorem dX5_digest_154 : decode cX5_digest 154 = .ok (.bipush 12, 2) := by decide +kernel
theorem dX5_digest_156 : decode cX5_digest 156 = .ok (.iload_n 1, 1) := by decide +kernel
theorem dX5_digest_157 : decode cX5_digest 157 = .ok (.imul, 1) := by decide +kernel
theorem dX5_digest_158 : decode cX5_digest 158 = .ok (.iload_n 2, 1) := by decide +kernel
theorem dX5_digest_159 : decode cX5_digest 159 = .ok (.iadd, 1) := by decide +kernel
theorem dX5_digest_160 : decode cX5_digest 160 = .ok (.iaload, 1) := by decide +kernel
theorem dX5_digest_161 : decode cX5_digest 161 = .ok (.i2l, 1) := by decide +kernel
theorem dX5_digest_162 : decode cX5_digest 162 = .ok (.invokevirtual 179, 3) := by decide +kernel
theorem dX5_digest_165 : decode cX5_digest 165 = .ok (.iinc 2 1, 3) := by decide +kernel
theorem dX5_digest_168 : decode cX5_digest 168 = .ok (.goto (-24), 3) := by decide +kernel
theorem dX5_digest_171 : decode cX5_digest 171 = .ok (.iinc 1 1, 3) := by decide +kernel
theorem dX5_digest_174 : decode cX5_digest 174 = .ok (.goto (-165), 3) := by decide +kernel
theorem dX5_digest_177 : decode cX5_digest 177 = .ok (.aload_n 0, 1) := by decide +kernel
theorem dX5_digest_178 : decode cX5_digest 178 = .ok (.aload_n 0, 1) := by decide +kernel
theorem dX5_digest_179 : decode cX5_digest 179 = .ok (.getfield 65, 3) := by decide +kernel
theorem dX5_digest_182 : decode cX5_digest 182 = .ok (.i2l, 1) := by decide +kernel
theorem dX5_digest_183 : decode cX5_digest 183 = .ok (.invokevirtual 179, 3) := by decide +kernel
theorem dX5_digest_186 : decode cX5_digest 186 = .ok (.aload_n 0, 1) := by decide +kernel
theorem dX5_digest_187 : decode cX5_digest 187 = .ok (.aload_n 0, 1) := by decide +kernel
theorem dX5_digest_188 : decode cX5_digest 188 = .ok (.getfield 129, 3) := by decide +kernel
theorem dX5_digest_191 : decode cX5_digest 191 = .ok (.i2l, 1) := by decide +kernel
theorem dX5_digest_192 : decode cX5_digest 192 = .ok (.invokevirtual 179, 3) := by decide +kernel
theorem dX5_digest_195 : decode cX5_digest 195 = .ok (.aload_n 0, 1) := by decide +kernel
theorem dX5_digest_196 : decode cX5_digest 196 = .ok (.aload_n 0, 1) := by decide +kernel
theorem dX5_digest_197 : decode cX5_digest 197 = .ok (.getfield 132, 3) := by decide +kernel
theorem dX5_digest_200 : decode cX5_digest 200 = .ok (.i2l, 1) := by decide +kernel
theorem dX5_digest_201 : decode cX5_digest 201 = .ok (.invokevirtual 179, 3) := by decide +kernel
theorem dX5_digest_204 : decode cX5_digest 204 = .ok (.aload_n 0, 1) := by decide +kernel
theorem dX5_digest_205 : decode cX5_digest 205 = .ok (.getfield 173, 3) := by decide +kernel
theorem dX5_digest_208 : decode cX5_digest 208 = .ok (.lreturn, 1) := by decide +kernel
theorem dL_law_0 : decode cL_law 0 = .ok (.new 7, 3) := by decide +kernel
theorem dL_law_3 : decode cL_law 3 = .ok (.dup, 1) := by decide +kernel
theorem dL_law_4 : decode cL_law 4 = .ok (.invokespecial 9, 3) := by decide +kernel
theorem dL_law_7 : decode cL_law 7 = .ok (.astore_n 1, 1) := by decide +kernel
theorem dL_law_8 : decode cL_law 8 = .ok (.new 10, 3) := by decide +kernel
theorem dL_law_11 : decode cL_law 11 = .ok (.dup, 1) := by decide +kernel
theorem dL_law_12 : decode cL_law 12 = .ok (.invokespecial 12, 3) := by decide +kernel
theorem dL_law_15 : decode cL_law 15 = .ok (.astore_n 2, 1) := by decide +kernel
theorem dL_law_16 : decode cL_law 16 = .ok (.iconst 0, 1) := by decide +kernel
theorem dL_law_17 : decode cL_law 17 = .ok (.istore_n 3, 1) := by decide +kernel
theorem dL_law_18 : decode cL_law 18 = .ok (.iload_n 3, 1) := by decide +kernel
theorem dL_law_19 : decode cL_law 19 = .ok (.aload_n 0, 1) := by decide +kernel
theorem dL_law_20 : decode cL_law 20 = .ok (.arraylength, 1) := by decide +kernel
theorem dL_law_21 : decode cL_law 21 = .ok (.iconst 4, 1) := by decide +kernel
theorem dL_law_22 : decode cL_law 22 = .ok (.isub, 1) := by decide +kernel
theorem dL_law_23 : decode cL_law 23 = .ok (.if_icmp .gt 937, 3) := by decide +kernel
theorem dL_law_26 : decode cL_law 26 = .ok (.aload_n 0, 1) := by decide +kernel
theorem dL_law_27 : decode cL_law 27 = .ok (.iload_n 3, 1) := by decide +kernel
theorem dL_law_28 : decode cL_law 28 = .ok (.iaload, 1) := by decide +kernel
theorem dL_law_29 : decode cL_law 29 = .ok (.bipush 31, 2) := by decide +kernel
theorem dL_law_31 : decode cL_law 31 = .ok (.iand, 1) := by decide +kernel
theorem dL_law_32 : decode cL_law 32 = .ok (.tableswitch 922 0 27 #[128, 151, 164, 177, 200, 243, 286, 335, 368, 391, 414, 437, 460, 483, 506, 539, 562, 585, 598, 611, 654, 697, 731, 795, 819, 852, 885, 908], 128) := by decide +kernel
theorem dL_law_160 : decode cL_law 160 = .ok (.aload_n 1, 1) := by decide +kernel
theorem dL_law_161 : decode cL_law 161 = .ok (.aload_n 0, 1) := by decide +kernel
theorem dL_law_162 : decode cL_law 162 = .ok (.iload_n 3, 1) := by decide +kernel
theorem dL_law_163 : decode cL_law 163 = .ok (.iconst 1, 1) := by decide +kernel
theorem dL_law_164 : decode cL_law 164 = .ok (.iadd, 1) := by decide +kernel
theorem dL_law_165 : decode cL_law 165 = .ok (.iaload, 1) := by decide +kernel
theorem dL_law_166 : decode cL_law 166 = .ok (.invokevirtual 13, 3) := by decide +kernel
theorem dL_law_169 : decode cL_law 169 = .ok (.aload_n 2, 1) := by decide +kernel
theorem dL_law_170 : decode cL_law 170 = .ok (.aload_n 0, 1) := by decide +kernel
theorem dL_law_171 : decode cL_law 171 = .ok (.iload_n 3, 1) := by decide +kernel
theorem dL_law_172 : decode cL_law 172 = .ok (.iconst 1, 1) := by decide +kernel
theorem dL_law_173 : decode cL_law 173 = .ok (.iadd, 1) := by decide +kernel
theorem dL_law_174 : decode cL_law 174 = .ok (.iaload, 1) := by decide +kernel
theorem dL_law_175 : decode cL_law 175 = .ok (.invokevirtual 17, 3) := by decide +kernel
theorem dL_law_178 : decode cL_law 178 = .ok (.if_icmp .eq 776, 3) := by decide +kernel
theorem dL_law_181 : decode cL_law 181 = .ok (.iconst 0, 1) := by decide +kernel
theorem dL_law_182 : decode cL_law 182 = .ok (.ireturn, 1) := by decide +kernel
theorem dL_law_183 : decode cL_law 183 = .ok (.aload_n 1, 1) := by decide +kernel
theorem dL_law_184 : decode cL_law 184 = .ok (.invokevirtual 18, 3) := by decide +kernel
theorem dL_law_187 : decode cL_law 187 = .ok (.aload_n 2, 1) := by decide +kernel
theorem dL_law_188 : decode cL_law 188 = .ok (.invokevirtual 22, 3) := by decide +kernel
theorem dL_law_191 : decode cL_law 191 = .ok (.if_icmp .eq 763, 3) := by decide +kernel
theorem dL_law_194 : decode cL_law 194 = .ok (.iconst 0, 1) := by decide +kernel
theorem dL_law_195 : decode cL_law 195 = .ok (.ireturn, 1) := by decide +kernel
theorem dL_law_196 : decode cL_law 196 = .ok (.aload_n 1, 1) := by decide +kernel
theorem dL_law_197 : decode cL_law 197 = .ok (.invokevirtual 23, 3) := by decide +kernel
theorem dL_law_200 : decode cL_law 200 = .ok (.aload_n 2, 1) := by decide +kernel
theorem dL_law_201 : decode cL_law 201 = .ok (.invokevirtual 26, 3) := by decide +kernel
theorem dL_law_204 : decode cL_law 204 = .ok (.if_icmp .eq 750, 3) := by decide +kernel
theorem dL_law_207 : decode cL_law 207 = .ok (.iconst 0, 1) := by decide +kernel
theorem dL_law_208 : decode cL_law 208 = .ok (.ireturn, 1) := by decide +kernel
theorem dL_law_209 : decode cL_law 209 = .ok (.aload_n 1, 1) := by decide +kernel
theorem dL_law_210 : decode cL_law 210 = .ok (.aload_n 0, 1) := by decide +kernel
theorem dL_law_211 : decode cL_law 211 = .ok (.iload_n 3, 1) := by decide +kernel
theorem dL_law_212 : decode cL_law 212 = .ok (.iconst 1, 1) := by decide +kernel
theorem dL_law_213 : decode cL_law 213 = .ok (.iadd, 1) := by decide +kernel
theorem dL_law_214 : decode cL_law 214 = .ok (.iaload, 1) := by decide +kernel
theorem dL_law_215 : decode cL_law 215 = .ok (.invokevirtual 27, 3) := by decide +kernel
theorem dL_law_218 : decode cL_law 218 = .ok (.aload_n 2, 1) := by decide +kernel
theorem dL_law_219 : decode cL_law 219 = .ok (.aload_n 0, 1) := by decide +kernel
theorem dL_law_220 : decode cL_law 220 = .ok (.iload_n 3, 1) := by decide +kernel
theorem dL_law_221 : decode cL_law 221 = .ok (.iconst 1, 1) := by decide +kernel
theorem dL_law_222 : decode cL_law 222 = .ok (.iadd, 1) := by decide +kernel
theorem dL_law_223 : decode cL_law 223 = .ok (.iaload, 1) := by decide +kernel
theorem dL_law_224 : decode cL_law 224 = .ok (.invokevirtual 30, 3) := by decide +kernel
theorem dL_law_227 : decode cL_law 227 = .ok (.if_icmp .eq 727, 3) := by decide +kernel
theorem dL_law_230 : decode cL_law 230 = .ok (.iconst 0, 1) := by decide +kernel
theorem dL_law_231 : decode cL_law 231 = .ok (.ireturn, 1) := by decide +kernel
theorem dL_law_232 : decode cL_law 232 = .ok (.aload_n 1, 1) := by decide +kernel
theorem dL_law_233 : decode cL_law 233 = .ok (.aload_n 0, 1) := by decide +kernel
theorem dL_law_234 : decode cL_law 234 = .ok (.iload_n 3, 1) := by decide +kernel
theorem dL_law_235 : decode cL_law 235 = .ok (.iconst 1, 1) := by decide +kernel
theorem dL_law_236 : decode cL_law 236 = .ok (.iadd, 1) := by decide +kernel
theorem dL_law_237 : decode cL_law 237 = .ok (.iaload, 1) := by decide +kernel
theorem dL_law_238 : decode cL_law 238 = .ok (.aload_n 0, 1) := by decide +kernel
theorem dL_law_239 : decode cL_law 239 = .ok (.iload_n 3, 1) := by decide +kernel
theorem dL_law_240 : decode cL_law 240 = .ok (.iconst 2, 1) := by decide +kernel
theorem dL_law_241 : decode cL_law 241 = .ok (.iadd, 1) := by decide +kernel
theorem dL_law_242 : decode cL_law 242 = .ok (.iaload, 1) := by decide +kernel
theorem dL_law_243 : decode cL_law 243 = .ok (.aload_n 0, 1) := by decide +kernel
theorem dL_law_244 : decode cL_law 244 = .ok (.iload_n 3, 1) := by decide +kernel
theorem dL_law_245 : decode cL_law 245 = .ok (.iconst 3, 1) := by decide +kernel
theorem dL_law_246 : decode cL_law 246 = .ok (.iadd, 1) := by decide +kernel
theorem dL_law_247 : decode cL_law 247 = .ok (.iaload, 1) := by decide +kernel
theorem dL_law_248 : decode cL_law 248 = .ok (.invokevirtual 31, 3) := by decide +kernel
theorem dL_law_251 : decode cL_law 251 = .ok (.aload_n 2, 1) := by decide +kernel
theorem dL_law_252 : decode cL_law 252 = .ok (.aload_n 0, 1) := by decide +kernel
theorem dL_law_253 : decode cL_law 253 = .ok (.iload_n 3, 1) := by decide +kernel
theorem dL_law_254 : decode cL_law 254 = .ok (.iconst 1, 1) := by decide +kernel
theorem dL_law_255 : decode cL_law 255 = .ok (.iadd, 1) := by decide +kernel
theorem dL_law_256 : decode cL_law 256 = .ok (.iaload, 1) := by decide +kernel
theorem dL_law_257 : decode cL_law 257 = .ok (.aload_n 0, 1) := by decide +kernel
theorem dL_law_258 : decode cL_law 258 = .ok (.iload_n 3, 1) := by decide +kernel
theorem dL_law_259 : decode cL_law 259 = .ok (.iconst 2, 1) := by decide +kernel
theorem dL_law_260 : decode cL_law 260 = .ok (.iadd, 1) := by decide +kernel
theorem dL_law_261 : decode cL_law 261 = .ok (.iaload, 1) := by decide +kernel
theorem dL_law_262 : decode cL_law 262 = .ok (.aload_n 0, 1) := by decide +kernel
theorem dL_law_263 : decode cL_law 263 = .ok (.iload_n 3, 1) := by decide +kernel
theorem dL_law_264 : decode cL_law 264 = .ok (.iconst 3, 1) := by decide +kernel
theorem dL_law_265 : decode cL_law 265 = .ok (.iadd, 1) := by decide +kernel
theorem dL_law_266 : decode cL_law 266 = .ok (.iaload, 1) := by decide +kernel
theorem dL_law_267 : decode cL_law 267 = .ok (.invokevirtual 35, 3) := by decide +kernel
theorem dL_law_270 : decode cL_law 270 = .ok (.if_icmp .eq 684, 3) := by decide +kernel
theorem dL_law_273 : decode cL_law 273 = .ok (.iconst 0, 1) := by decide +kernel
theorem dL_law_274 : decode cL_law 274 = .ok (.ireturn, 1) := by decide +kernel
theorem dL_law_275 : decode cL_law 275 = .ok (.aload_n 1, 1) := by decide +kernel
theorem dL_law_276 : decode cL_law 276 = .ok (.aload_n 0, 1) := by decide +kernel
theorem dL_law_277 : decode cL_law 277 = .ok (.iload_n 3, 1) := by decide +kernel
theorem dL_law_278 : decode cL_law 278 = .ok (.iconst 1, 1) := by decide +kernel
theorem dL_law_279 : decode cL_law 279 = .ok (.iadd, 1) := by decide +kernel
theorem dL_law_280 : decode cL_law 280 = .ok (.iaload, 1) := by decide +kernel
theorem dL_law_281 : decode cL_law 281 = .ok (.aload_n 0, 1) := by decide +kernel
theorem dL_law_282 : decode cL_law 282 = .ok (.iload_n 3, 1) := by decide +kernel
theorem dL_law_283 : decode cL_law 283 = .ok (.iconst 2, 1) := by decide +kernel
theorem dL_law_284 : decode cL_law 284 = .ok (.iadd, 1) := by decide +kernel
theorem dL_law_285 : decode cL_law 285 = .ok (.iaload, 1) := by decide +kernel
theorem dL_law_286 : decode cL_law 286 = .ok (.aload_n 0, 1) := by decide +kernel
theorem dL_law_287 : decode cL_law 287 = .ok (.iload_n 3, 1) := by decide +kernel
theorem dL_law_288 : decode cL_law 288 = .ok (.iconst 3, 1) := by decide +kernel
theorem dL_law_289 : decode cL_law 289 = .ok (.iadd, 1) := by decide +kernel
theorem dL_law_290 : decode cL_law 290 = .ok (.iaload, 1) := by decide +kernel
theorem dL_law_291 : decode cL_law 291 = .ok (.invokevirtual 36, 3) := by decide +kernel
theorem dL_law_294 : decode cL_law 294 = .ok (.aload_n 2, 1) := by decide +kernel
theorem dL_law_295 : decode cL_law 295 = .ok (.aload_n 0, 1) := by decide +kernel
theorem dL_law_296 : decode cL_law 296 = .ok (.iload_n 3, 1) := by decide +kernel
theorem dL_law_297 : decode cL_law 297 = .ok (.iconst 1, 1) := by decide +kernel
theorem dL_law_298 : decode cL_law 298 = .ok (.iadd, 1) := by decide +kernel
theorem dL_law_299 : decode cL_law 299 = .ok (.iaload, 1) := by decide +kernel
theorem dL_law_300 : decode cL_law 300 = .ok (.aload_n 0, 1) := by decide +kernel
theorem dL_law_301 : decode cL_law 301 = .ok (.iload_n 3, 1) := by decide +kernel
theorem dL_law_302 : decode cL_law 302 = .ok (.iconst 2, 1) := by decide +kernel
theorem dL_law_303 : decode cL_law 303 = .ok (.iadd, 1) := by decide +kernel
theorem dL_law_304 : decode cL_law 304 = .ok (.iaload, 1) := by decide +kernel
theorem dL_law_305 : decode cL_law 305 = .ok (.aload_n 0, 1) := by decide +kernel
theorem dL_law_306 : decode cL_law 306 = .ok (.iload_n 3, 1) := by decide +kernel
theorem dL_law_307 : decode cL_law 307 = .ok (.iconst 3, 1) := by decide +kernel
theorem dL_law_308 : decode cL_law 308 = .ok (.iadd, 1) := by decide +kernel
theorem dL_law_309 : decode cL_law 309 = .ok (.iaload, 1) := by decide +kernel
theorem dL_law_310 : decode cL_law 310 = .ok (.invokevirtual 39, 3) := by decide +kernel
theorem dL_law_313 : decode cL_law 313 = .ok (.if_icmp .eq 641, 3) := by decide +kernel
theorem dL_law_316 : decode cL_law 316 = .ok (.iconst 0, 1) := by decide +kernel
theorem dL_law_317 : decode cL_law 317 = .ok (.ireturn, 1) := by decide +kernel
theorem dL_law_318 : decode cL_law 318 = .ok (.aload_n 1, 1) := by decide +kernel
theorem dL_law_319 : decode cL_law 319 = .ok (.aload_n 0, 1) := by decide +kernel
theorem dL_law_320 : decode cL_law 320 = .ok (.iload_n 3, 1) := by decide +kernel
theorem dL_law_321 : decode cL_law 321 = .ok (.iconst 1, 1) := by decide +kernel
theorem dL_law_322 : decode cL_law 322 = .ok (.iadd, 1) := by decide +kernel
theorem dL_law_323 : decode cL_law 323 = .ok (.iaload, 1) := by decide +kernel
theorem dL_law_324 : decode cL_law 324 = .ok (.aload_n 0, 1) := by decide +kernel
theorem dL_law_325 : decode cL_law 325 = .ok (.iload_n 3, 1) := by decide +kernel
theorem dL_law_326 : decode cL_law 326 = .ok (.iconst 2, 1) := by decide +kernel
theorem dL_law_327 : decode cL_law 327 = .ok (.iadd, 1) := by decide +kernel
theorem dL_law_328 : decode cL_law 328 = .ok (.iaload, 1) := by decide +kernel
theorem dL_law_329 : decode cL_law 329 = .ok (.ifCond .eq 7, 3) := by decide +kernel
theorem dL_law_332 : decode cL_law 332 = .ok (.iconst 1, 1) := by decide +kernel
theorem dL_law_333 : decode cL_law 333 = .ok (.goto 4, 3) := by decide +kernel
theorem dL_law_336 : decode cL_law 336 = .ok (.iconst 0, 1) := by decide +kernel
theorem dL_law_337 : decode cL_law 337 = .ok (.invokevirtual 40, 3) := by decide +kernel
theorem dL_law_340 : decode cL_law 340 = .ok (.aload_n 2, 1) := by decide +kernel
theorem dL_law_341 : decode cL_law 341 = .ok (.aload_n 0, 1) := by decide +kernel
theorem dL_law_342 : decode cL_law 342 = .ok (.iload_n 3, 1) := by decide +kernel
theorem dL_law_343 : decode cL_law 343 = .ok (.iconst 1, 1) := by decide +kernel
theorem dL_law_344 : decode cL_law 344 = .ok (.iadd, 1) := by decide +kernel
theorem dL_law_345 : decode cL_law 345 = .ok (.iaload, 1) := by decide +kernel
theorem dL_law_346 : decode cL_law 346 = .ok (.aload_n 0, 1) := by decide +kernel
theorem dL_law_347 : decode cL_law 347 = .ok (.iload_n 3, 1) := by decide +kernel
theorem dL_law_348 : decode cL_law 348 = .ok (.iconst 2, 1) := by decide +kernel
theorem dL_law_349 : decode cL_law 349 = .ok (.iadd, 1) := by decide +kernel
theorem dL_law_350 : decode cL_law 350 = .ok (.iaload, 1) := by decide +kernel
theorem dL_law_351 : decode cL_law 351 = .ok (.ifCond .eq 7, 3) := by decide +kernel
theorem dL_law_354 : decode cL_law 354 = .ok (.iconst 1, 1) := by decide +kernel
theorem dL_law_355 : decode cL_law 355 = .ok (.goto 4, 3) := by decide +kernel
theorem dL_law_358 : decode cL_law 358 = .ok (.iconst 0, 1) := by decide +kernel
theorem dL_law_359 : decode cL_law 359 = .ok (.invokevirtual 44, 3) := by decide +kernel
theorem dL_law_362 : decode cL_law 362 = .ok (.if_icmp .eq 592, 3) := by decide +kernel
theorem dL_law_365 : decode cL_law 365 = .ok (.iconst 0, 1) := by decide +kernel
theorem dL_law_366 : decode cL_law 366 = .ok (.ireturn, 1) := by decide +kernel
theorem dL_law_367 : decode cL_law 367 = .ok (.aload_n 1, 1) := by decide +kernel
theorem dL_law_368 : decode cL_law 368 = .ok (.aload_n 0, 1) := by decide +kernel
theorem dL_law_369 : decode cL_law 369 = .ok (.iload_n 3, 1) := by decide +kernel
theorem dL_law_370 : decode cL_law 370 = .ok (.iconst 1, 1) := by decide +kernel
theorem dL_law_371 : decode cL_law 371 = .ok (.iadd, 1) := by decide +kernel
theorem dL_law_372 : decode cL_law 372 = .ok (.iaload, 1) := by decide +kernel
theorem dL_law_373 : decode cL_law 373 = .ok (.aload_n 0, 1) := by decide +kernel
theorem dL_law_374 : decode cL_law 374 = .ok (.iload_n 3, 1) := by decide +kernel
theorem dL_law_375 : decode cL_law 375 = .ok (.iconst 2, 1) := by decide +kernel
theorem dL_law_376 : decode cL_law 376 = .ok (.iadd, 1) := by decide +kernel
theorem dL_law_377 : decode cL_law 377 = .ok (.iaload, 1) := by decide +kernel
theorem dL_law_378 : decode cL_law 378 = .ok (.invokevirtual 45, 3) := by decide +kernel
theorem dL_law_381 : decode cL_law 381 = .ok (.aload_n 2, 1) := by decide +kernel
theorem dL_law_382 : decode cL_law 382 = .ok (.aload_n 0, 1) := by decide +kernel
theorem dL_law_383 : decode cL_law 383 = .ok (.iload_n 3, 1) := by decide +kernel
theorem dL_law_384 : decode cL_law 384 = .ok (.iconst 1, 1) := by decide +kernel
theorem dL_law_385 : decode cL_law 385 = .ok (.iadd, 1) := by decide +kernel
theorem dL_law_386 : decode cL_law 386 = .ok (.iaload, 1) := by decide +kernel
theorem dL_law_387 : decode cL_law 387 = .ok (.aload_n 0, 1) := by decide +kernel
theorem dL_law_388 : decode cL_law 388 = .ok (.iload_n 3, 1) := by decide +kernel
theorem dL_law_389 : decode cL_law 389 = .ok (.iconst 2, 1) := by decide +kernel
theorem dL_law_390 : decode cL_law 390 = .ok (.iadd, 1) := by decide +kernel
theorem dL_law_391 : decode cL_law 391 = .ok (.iaload, 1) := by decide +kernel
theorem dL_law_392 : decode cL_law 392 = .ok (.invokevirtual 49, 3) := by decide +kernel
theorem dL_law_395 : decode cL_law 395 = .ok (.if_icmp .eq 559, 3) := by decide +kernel
theorem dL_law_398 : decode cL_law 398 = .ok (.iconst 0, 1) := by decide +kernel
theorem dL_law_399 : decode cL_law 399 = .ok (.ireturn, 1) := by decide +kernel
theorem dL_law_400 : decode cL_law 400 = .ok (.aload_n 1, 1) := by decide +kernel
theorem dL_law_401 : decode cL_law 401 = .ok (.aload_n 0, 1) := by decide +kernel
theorem dL_law_402 : decode cL_law 402 = .ok (.iload_n 3, 1) := by decide +kernel
theorem dL_law_403 : decode cL_law 403 = .ok (.iconst 1, 1) := by decide +kernel
theorem dL_law_404 : decode cL_law 404 = .ok (.iadd, 1) := by decide +kernel
theorem dL_law_405 : decode cL_law 405 = .ok (.iaload, 1) := by decide +kernel
theorem dL_law_406 : decode cL_law 406 = .ok (.invokevirtual 50, 3) := by decide +kernel
theorem dL_law_409 : decode cL_law 409 = .ok (.aload_n 2, 1) := by decide +kernel
theorem dL_law_410 : decode cL_law 410 = .ok (.aload_n 0, 1) := by decide +kernel
theorem dL_law_411 : decode cL_law 411 = .ok (.iload_n 3, 1) := by decide +kernel
theorem dL_law_412 : decode cL_law 412 = .ok (.iconst 1, 1) := by decide +kernel
theorem dL_law_413 : decode cL_law 413 = .ok (.iadd, 1) := by decide +kernel
theorem dL_law_414 : decode cL_law 414 = .ok (.iaload, 1) := by decide +kernel
theorem dL_law_415 : decode cL_law 415 = .ok (.invokevirtual 53, 3) := by decide +kernel
theorem dL_law_418 : decode cL_law 418 = .ok (.if_icmp .eq 536, 3) := by decide +kernel
theorem dL_law_421 : decode cL_law 421 = .ok (.iconst 0, 1) := by decide +kernel
theorem dL_law_422 : decode cL_law 422 = .ok (.ireturn, 1) := by decide +kernel
theorem dL_law_423 : decode cL_law 423 = .ok (.aload_n 1, 1) := by decide +kernel
theorem dL_law_424 : decode cL_law 424 = .ok (.aload_n 0, 1) := by decide +kernel
theorem dL_law_425 : decode cL_law 425 = .ok (.iload_n 3, 1) := by decide +kernel
theorem dL_law_426 : decode cL_law 426 = .ok (.iconst 1, 1) := by decide +kernel
theorem dL_law_427 : decode cL_law 427 = .ok (.iadd, 1) := by decide +kernel
theorem dL_law_428 : decode cL_law 428 = .ok (.iaload, 1) := by decide +kernel
theorem dL_law_429 : decode cL_law 429 = .ok (.invokevirtual 54, 3) := by decide +kernel
theorem dL_law_432 : decode cL_law 432 = .ok (.aload_n 2, 1) := by decide +kernel
theorem dL_law_433 : decode cL_law 433 = .ok (.aload_n 0, 1) := by decide +kernel
theorem dL_law_434 : decode cL_law 434 = .ok (.iload_n 3, 1) := by decide +kernel
theorem dL_law_435 : decode cL_law 435 = .ok (.iconst 1, 1) := by decide +kernel
theorem dL_law_436 : decode cL_law 436 = .ok (.iadd, 1) := by decide +kernel
theorem dL_law_437 : decode cL_law 437 = .ok (.iaload, 1) := by decide +kernel
theorem dL_law_438 : decode cL_law 438 = .ok (.invokevirtual 57, 3) := by decide +kernel
theorem dL_law_441 : decode cL_law 441 = .ok (.if_icmp .eq 513, 3) := by decide +kernel
theorem dL_law_444 : decode cL_law 444 = .ok (.iconst 0, 1) := by decide +kernel
theorem dL_law_445 : decode cL_law 445 = .ok (.ireturn, 1) := by decide +kernel
theorem dL_law_446 : decode cL_law 446 = .ok (.aload_n 1, 1) := by decide +kernel
theorem dL_law_447 : decode cL_law 447 = .ok (.aload_n 0, 1) := by decide +kernel
theorem dL_law_448 : decode cL_law 448 = .ok (.iload_n 3, 1) := by decide +kernel
theorem dL_law_449 : decode cL_law 449 = .ok (.iconst 1, 1) := by decide +kernel
theorem dL_law_450 : decode cL_law 450 = .ok (.iadd, 1) := by decide +kernel
theorem dL_law_451 : decode cL_law 451 = .ok (.iaload, 1) := by decide +kernel
theorem dL_law_452 : decode cL_law 452 = .ok (.invokevirtual 58, 3) := by decide +kernel
theorem dL_law_455 : decode cL_law 455 = .ok (.aload_n 2, 1) := by decide +kernel
theorem dL_law_456 : decode cL_law 456 = .ok (.aload_n 0, 1) := by decide +kernel
theorem dL_law_457 : decode cL_law 457 = .ok (.iload_n 3, 1) := by decide +kernel
theorem dL_law_458 : decode cL_law 458 = .ok (.iconst 1, 1) := by decide +kernel
theorem dL_law_459 : decode cL_law 459 = .ok (.iadd, 1) := by decide +kernel
theorem dL_law_460 : decode cL_law 460 = .ok (.iaload, 1) := by decide +kernel
theorem dL_law_461 : decode cL_law 461 = .ok (.invokevirtual 61, 3) := by decide +kernel
theorem dL_law_464 : decode cL_law 464 = .ok (.if_icmp .eq 490, 3) := by decide +kernel
theorem dL_law_467 : decode cL_law 467 = .ok (.iconst 0, 1) := by decide +kernel
theorem dL_law_468 : decode cL_law 468 = .ok (.ireturn, 1) := by decide +kernel
theorem dL_law_469 : decode cL_law 469 = .ok (.aload_n 1, 1) := by decide +kernel
theorem dL_law_470 : decode cL_law 470 = .ok (.aload_n 0, 1) := by decide +kernel
theorem dL_law_471 : decode cL_law 471 = .ok (.iload_n 3, 1) := by decide +kernel
theorem dL_law_472 : decode cL_law 472 = .ok (.iconst 1, 1) := by decide +kernel
theorem dL_law_473 : decode cL_law 473 = .ok (.iadd, 1) := by decide +kernel
theorem dL_law_474 : decode cL_law 474 = .ok (.iaload, 1) := by decide +kernel
theorem dL_law_475 : decode cL_law 475 = .ok (.invokevirtual 62, 3) := by decide +kernel
theorem dL_law_478 : decode cL_law 478 = .ok (.aload_n 2, 1) := by decide +kernel
theorem dL_law_479 : decode cL_law 479 = .ok (.aload_n 0, 1) := by decide +kernel
theorem dL_law_480 : decode cL_law 480 = .ok (.iload_n 3, 1) := by decide +kernel
theorem dL_law_481 : decode cL_law 481 = .ok (.iconst 1, 1) := by decide +kernel
theorem dL_law_482 : decode cL_law 482 = .ok (.iadd, 1) := by decide +kernel
theorem dL_law_483 : decode cL_law 483 = .ok (.iaload, 1) := by decide +kernel
theorem dL_law_484 : decode cL_law 484 = .ok (.invokevirtual 65, 3) := by decide +kernel
theorem dL_law_487 : decode cL_law 487 = .ok (.if_icmp .eq 467, 3) := by decide +kernel
theorem dL_law_490 : decode cL_law 490 = .ok (.iconst 0, 1) := by decide +kernel
theorem dL_law_491 : decode cL_law 491 = .ok (.ireturn, 1) := by decide +kernel
theorem dL_law_492 : decode cL_law 492 = .ok (.aload_n 1, 1) := by decide +kernel
theorem dL_law_493 : decode cL_law 493 = .ok (.aload_n 0, 1) := by decide +kernel
theorem dL_law_494 : decode cL_law 494 = .ok (.iload_n 3, 1) := by decide +kernel
theorem dL_law_495 : decode cL_law 495 = .ok (.iconst 1, 1) := by decide +kernel
theorem dL_law_496 : decode cL_law 496 = .ok (.iadd, 1) := by decide +kernel
theorem dL_law_497 : decode cL_law 497 = .ok (.iaload, 1) := by decide +kernel
theorem dL_law_498 : decode cL_law 498 = .ok (.invokevirtual 66, 3) := by decide +kernel
theorem dL_law_501 : decode cL_law 501 = .ok (.aload_n 2, 1) := by decide +kernel
theorem dL_law_502 : decode cL_law 502 = .ok (.aload_n 0, 1) := by decide +kernel
theorem dL_law_503 : decode cL_law 503 = .ok (.iload_n 3, 1) := by decide +kernel
theorem dL_law_504 : decode cL_law 504 = .ok (.iconst 1, 1) := by decide +kernel
theorem dL_law_505 : decode cL_law 505 = .ok (.iadd, 1) := by decide +kernel
theorem dL_law_506 : decode cL_law 506 = .ok (.iaload, 1) := by decide +kernel
theorem dL_law_507 : decode cL_law 507 = .ok (.invokevirtual 69, 3) := by decide +kernel
theorem dL_law_510 : decode cL_law 510 = .ok (.if_icmp .eq 444, 3) := by decide +kernel
theorem dL_law_513 : decode cL_law 513 = .ok (.iconst 0, 1) := by decide +kernel
theorem dL_law_514 : decode cL_law 514 = .ok (.ireturn, 1) := by decide +kernel
theorem dL_law_515 : decode cL_law 515 = .ok (.aload_n 1, 1) := by decide +kernel
theorem dL_law_516 : decode cL_law 516 = .ok (.aload_n 0, 1) := by decide +kernel
theorem dL_law_517 : decode cL_law 517 = .ok (.iload_n 3, 1) := by decide +kernel
theorem dL_law_518 : decode cL_law 518 = .ok (.iconst 1, 1) := by decide +kernel
theorem dL_law_519 : decode cL_law 519 = .ok (.iadd, 1) := by decide +kernel
theorem dL_law_520 : decode cL_law 520 = .ok (.iaload, 1) := by decide +kernel
theorem dL_law_521 : decode cL_law 521 = .ok (.invokevirtual 70, 3) := by decide +kernel
theorem dL_law_524 : decode cL_law 524 = .ok (.aload_n 2, 1) := by decide +kernel
theorem dL_law_525 : decode cL_law 525 = .ok (.aload_n 0, 1) := by decide +kernel
theorem dL_law_526 : decode cL_law 526 = .ok (.iload_n 3, 1) := by decide +kernel
theorem dL_law_527 : decode cL_law 527 = .ok (.iconst 1, 1) := by decide +kernel
theorem dL_law_528 : decode cL_law 528 = .ok (.iadd, 1) := by decide +kernel
theorem dL_law_529 : decode cL_law 529 = .ok (.iaload, 1) := by decide +kernel
theorem dL_law_530 : decode cL_law 530 = .ok (.invokevirtual 73, 3) := by decide +kernel
theorem dL_law_533 : decode cL_law 533 = .ok (.if_icmp .eq 421, 3) := by decide +kernel
theorem dL_law_536 : decode cL_law 536 = .ok (.iconst 0, 1) := by decide +kernel
theorem dL_law_537 : decode cL_law 537 = .ok (.ireturn, 1) := by decide +kernel
theorem dL_law_538 : decode cL_law 538 = .ok (.aload_n 1, 1) := by decide +kernel
theorem dL_law_539 : decode cL_law 539 = .ok (.aload_n 0, 1) := by decide +kernel
theorem dL_law_540 : decode cL_law 540 = .ok (.iload_n 3, 1) := by decide +kernel
theorem dL_law_541 : decode cL_law 541 = .ok (.iconst 1, 1) := by decide +kernel
theorem dL_law_542 : decode cL_law 542 = .ok (.iadd, 1) := by decide +kernel
theorem dL_law_543 : decode cL_law 543 = .ok (.iaload, 1) := by decide +kernel
theorem dL_law_544 : decode cL_law 544 = .ok (.aload_n 0, 1) := by decide +kernel
theorem dL_law_545 : decode cL_law 545 = .ok (.iload_n 3, 1) := by decide +kernel
theorem dL_law_546 : decode cL_law 546 = .ok (.iconst 2, 1) := by decide +kernel
theorem dL_law_547 : decode cL_law 547 = .ok (.iadd, 1) := by decide +kernel
theorem dL_law_548 : decode cL_law 548 = .ok (.iaload, 1) := by decide +kernel
theorem dL_law_549 : decode cL_law 549 = .ok (.invokevirtual 74, 3) := by decide +kernel
theorem dL_law_552 : decode cL_law 552 = .ok (.aload_n 2, 1) := by decide +kernel
theorem dL_law_553 : decode cL_law 553 = .ok (.aload_n 0, 1) := by decide +kernel
theorem dL_law_554 : decode cL_law 554 = .ok (.iload_n 3, 1) := by decide +kernel
theorem dL_law_555 : decode cL_law 555 = .ok (.iconst 1, 1) := by decide +kernel
theorem dL_law_556 : decode cL_law 556 = .ok (.iadd, 1) := by decide +kernel
theorem dL_law_557 : decode cL_law 557 = .ok (.iaload, 1) := by decide +kernel
theorem dL_law_558 : decode cL_law 558 = .ok (.aload_n 0, 1) := by decide +kernel
theorem dL_law_559 : decode cL_law 559 = .ok (.iload_n 3, 1) := by decide +kernel
theorem dL_law_560 : decode cL_law 560 = .ok (.iconst 2, 1) := by decide +kernel
theorem dL_law_561 : decode cL_law 561 = .ok (.iadd, 1) := by decide +kernel
theorem dL_law_562 : decode cL_law 562 = .ok (.iaload, 1) := by decide +kernel
theorem dL_law_563 : decode cL_law 563 = .ok (.invokevirtual 77, 3) := by decide +kernel
theorem dL_law_566 : decode cL_law 566 = .ok (.if_icmp .eq 388, 3) := by decide +kernel
theorem dL_law_569 : decode cL_law 569 = .ok (.iconst 0, 1) := by decide +kernel
theorem dL_law_570 : decode cL_law 570 = .ok (.ireturn, 1) := by decide +kernel
theorem dL_law_571 : decode cL_law 571 = .ok (.aload_n 1, 1) := by decide +kernel
theorem dL_law_572 : decode cL_law 572 = .ok (.aload_n 0, 1) := by decide +kernel
theorem dL_law_573 : decode cL_law 573 = .ok (.iload_n 3, 1) := by decide +kernel
theorem dL_law_574 : decode cL_law 574 = .ok (.iconst 1, 1) := by decide +kernel
theorem dL_law_575 : decode cL_law 575 = .ok (.iadd, 1) := by decide +kernel
theorem dL_law_576 : decode cL_law 576 = .ok (.iaload, 1) := by decide +kernel
theorem dL_law_577 : decode cL_law 577 = .ok (.invokevirtual 78, 3) := by decide +kernel
theorem dL_law_580 : decode cL_law 580 = .ok (.aload_n 2, 1) := by decide +kernel
theorem dL_law_581 : decode cL_law 581 = .ok (.aload_n 0, 1) := by decide +kernel
theorem dL_law_582 : decode cL_law 582 = .ok (.iload_n 3, 1) := by decide +kernel
theorem dL_law_583 : decode cL_law 583 = .ok (.iconst 1, 1) := by decide +kernel
theorem dL_law_584 : decode cL_law 584 = .ok (.iadd, 1) := by decide +kernel
theorem dL_law_585 : decode cL_law 585 = .ok (.iaload, 1) := by decide +kernel
theorem dL_law_586 : decode cL_law 586 = .ok (.invokevirtual 81, 3) := by decide +kernel
theorem dL_law_589 : decode cL_law 589 = .ok (.if_icmp .eq 365, 3) := by decide +kernel
theorem dL_law_592 : decode cL_law 592 = .ok (.iconst 0, 1) := by decide +kernel
theorem dL_law_593 : decode cL_law 593 = .ok (.ireturn, 1) := by decide +kernel
theorem dL_law_594 : decode cL_law 594 = .ok (.aload_n 1, 1) := by decide +kernel
theorem dL_law_595 : decode cL_law 595 = .ok (.aload_n 0, 1) := by decide +kernel
theorem dL_law_596 : decode cL_law 596 = .ok (.iload_n 3, 1) := by decide +kernel
theorem dL_law_597 : decode cL_law 597 = .ok (.iconst 1, 1) := by decide +kernel
theorem dL_law_598 : decode cL_law 598 = .ok (.iadd, 1) := by decide +kernel
theorem dL_law_599 : decode cL_law 599 = .ok (.iaload, 1) := by decide +kernel
theorem dL_law_600 : decode cL_law 600 = .ok (.invokevirtual 82, 3) := by decide +kernel
theorem dL_law_603 : decode cL_law 603 = .ok (.aload_n 2, 1) := by decide +kernel
theorem dL_law_604 : decode cL_law 604 = .ok (.aload_n 0, 1) := by decide +kernel
theorem dL_law_605 : decode cL_law 605 = .ok (.iload_n 3, 1) := by decide +kernel
theorem dL_law_606 : decode cL_law 606 = .ok (.iconst 1, 1) := by decide +kernel
theorem dL_law_607 : decode cL_law 607 = .ok (.iadd, 1) := by decide +kernel
theorem dL_law_608 : decode cL_law 608 = .ok (.iaload, 1) := by decide +kernel
theorem dL_law_609 : decode cL_law 609 = .ok (.invokevirtual 85, 3) := by decide +kernel
theorem dL_law_612 : decode cL_law 612 = .ok (.if_icmp .eq 342, 3) := by decide +kernel
theorem dL_law_615 : decode cL_law 615 = .ok (.iconst 0, 1) := by decide +kernel
theorem dL_law_616 : decode cL_law 616 = .ok (.ireturn, 1) := by decide +kernel
theorem dL_law_617 : decode cL_law 617 = .ok (.aload_n 1, 1) := by decide +kernel
theorem dL_law_618 : decode cL_law 618 = .ok (.invokevirtual 86, 3) := by decide +kernel
theorem dL_law_621 : decode cL_law 621 = .ok (.aload_n 2, 1) := by decide +kernel
theorem dL_law_622 : decode cL_law 622 = .ok (.invokevirtual 89, 3) := by decide +kernel
theorem dL_law_625 : decode cL_law 625 = .ok (.if_icmp .eq 329, 3) := by decide +kernel
theorem dL_law_628 : decode cL_law 628 = .ok (.iconst 0, 1) := by decide +kernel
theorem dL_law_629 : decode cL_law 629 = .ok (.ireturn, 1) := by decide +kernel
theorem dL_law_630 : decode cL_law 630 = .ok (.aload_n 1, 1) := by decide +kernel
theorem dL_law_631 : decode cL_law 631 = .ok (.invokevirtual 90, 3) := by decide +kernel
theorem dL_law_634 : decode cL_law 634 = .ok (.aload_n 2, 1) := by decide +kernel
theorem dL_law_635 : decode cL_law 635 = .ok (.invokevirtual 93, 3) := by decide +kernel
theorem dL_law_638 : decode cL_law 638 = .ok (.if_icmp .eq 316, 3) := by decide +kernel
theorem dL_law_641 : decode cL_law 641 = .ok (.iconst 0, 1) := by decide +kernel
theorem dL_law_642 : decode cL_law 642 = .ok (.ireturn, 1) := by decide +kernel
theorem dL_law_643 : decode cL_law 643 = .ok (.aload_n 1, 1) := by decide +kernel
theorem dL_law_644 : decode cL_law 644 = .ok (.aload_n 0, 1) := by decide +kernel
theorem dL_law_645 : decode cL_law 645 = .ok (.iload_n 3, 1) := by decide +kernel
theorem dL_law_646 : decode cL_law 646 = .ok (.iconst 1, 1) := by decide +kernel
theorem dL_law_647 : decode cL_law 647 = .ok (.iadd, 1) := by decide +kernel
theorem dL_law_648 : decode cL_law 648 = .ok (.iaload, 1) := by decide +kernel
theorem dL_law_649 : decode cL_law 649 = .ok (.aload_n 0, 1) := by decide +kernel
theorem dL_law_650 : decode cL_law 650 = .ok (.iload_n 3, 1) := by decide +kernel
theorem dL_law_651 : decode cL_law 651 = .ok (.iconst 2, 1) := by decide +kernel
theorem dL_law_652 : decode cL_law 652 = .ok (.iadd, 1) := by decide +kernel
theorem dL_law_653 : decode cL_law 653 = .ok (.iaload, 1) := by decide +kernel
theorem dL_law_654 : decode cL_law 654 = .ok (.aload_n 0, 1) := by decide +kernel
theorem dL_law_655 : decode cL_law 655 = .ok (.iload_n 3, 1) := by decide +kernel
theorem dL_law_656 : decode cL_law 656 = .ok (.iconst 3, 1) := by decide +kernel
theorem dL_law_657 : decode cL_law 657 = .ok (.iadd, 1) := by decide +kernel
theorem dL_law_658 : decode cL_law 658 = .ok (.iaload, 1) := by decide +kernel
theorem dL_law_659 : decode cL_law 659 = .ok (.invokevirtual 94, 3) := by decide +kernel
theorem dL_law_662 : decode cL_law 662 = .ok (.aload_n 2, 1) := by decide +kernel
theorem dL_law_663 : decode cL_law 663 = .ok (.aload_n 0, 1) := by decide +kernel
theorem dL_law_664 : decode cL_law 664 = .ok (.iload_n 3, 1) := by decide +kernel
theorem dL_law_665 : decode cL_law 665 = .ok (.iconst 1, 1) := by decide +kernel
theorem dL_law_666 : decode cL_law 666 = .ok (.iadd, 1) := by decide +kernel
theorem dL_law_667 : decode cL_law 667 = .ok (.iaload, 1) := by decide +kernel
theorem dL_law_668 : decode cL_law 668 = .ok (.aload_n 0, 1) := by decide +kernel
theorem dL_law_669 : decode cL_law 669 = .ok (.iload_n 3, 1) := by decide +kernel
theorem dL_law_670 : decode cL_law 670 = .ok (.iconst 2, 1) := by decide +kernel
theorem dL_law_671 : decode cL_law 671 = .ok (.iadd, 1) := by decide +kernel
theorem dL_law_672 : decode cL_law 672 = .ok (.iaload, 1) := by decide +kernel
theorem dL_law_673 : decode cL_law 673 = .ok (.aload_n 0, 1) := by decide +kernel
theorem dL_law_674 : decode cL_law 674 = .ok (.iload_n 3, 1) := by decide +kernel
theorem dL_law_675 : decode cL_law 675 = .ok (.iconst 3, 1) := by decide +kernel
theorem dL_law_676 : decode cL_law 676 = .ok (.iadd, 1) := by decide +kernel
theorem dL_law_677 : decode cL_law 677 = .ok (.iaload, 1) := by decide +kernel
theorem dL_law_678 : decode cL_law 678 = .ok (.invokevirtual 97, 3) := by decide +kernel
theorem dL_law_681 : decode cL_law 681 = .ok (.if_icmp .eq 273, 3) := by decide +kernel
theorem dL_law_684 : decode cL_law 684 = .ok (.iconst 0, 1) := by decide +kernel
theorem dL_law_685 : decode cL_law 685 = .ok (.ireturn, 1) := by decide +kernel
theorem dL_law_686 : decode cL_law 686 = .ok (.aload_n 1, 1) := by decide +kernel
theorem dL_law_687 : decode cL_law 687 = .ok (.aload_n 0, 1) := by decide +kernel
theorem dL_law_688 : decode cL_law 688 = .ok (.iload_n 3, 1) := by decide +kernel
theorem dL_law_689 : decode cL_law 689 = .ok (.iconst 1, 1) := by decide +kernel
theorem dL_law_690 : decode cL_law 690 = .ok (.iadd, 1) := by decide +kernel
theorem dL_law_691 : decode cL_law 691 = .ok (.iaload, 1) := by decide +kernel
theorem dL_law_692 : decode cL_law 692 = .ok (.aload_n 0, 1) := by decide +kernel
theorem dL_law_693 : decode cL_law 693 = .ok (.iload_n 3, 1) := by decide +kernel
theorem dL_law_694 : decode cL_law 694 = .ok (.iconst 2, 1) := by decide +kernel
theorem dL_law_695 : decode cL_law 695 = .ok (.iadd, 1) := by decide +kernel
theorem dL_law_696 : decode cL_law 696 = .ok (.iaload, 1) := by decide +kernel
theorem dL_law_697 : decode cL_law 697 = .ok (.aload_n 0, 1) := by decide +kernel
theorem dL_law_698 : decode cL_law 698 = .ok (.iload_n 3, 1) := by decide +kernel
theorem dL_law_699 : decode cL_law 699 = .ok (.iconst 3, 1) := by decide +kernel
theorem dL_law_700 : decode cL_law 700 = .ok (.iadd, 1) := by decide +kernel
theorem dL_law_701 : decode cL_law 701 = .ok (.iaload, 1) := by decide +kernel
theorem dL_law_702 : decode cL_law 702 = .ok (.invokevirtual 98, 3) := by decide +kernel
theorem dL_law_705 : decode cL_law 705 = .ok (.aload_n 2, 1) := by decide +kernel
theorem dL_law_706 : decode cL_law 706 = .ok (.aload_n 0, 1) := by decide +kernel
theorem dL_law_707 : decode cL_law 707 = .ok (.iload_n 3, 1) := by decide +kernel
theorem dL_law_708 : decode cL_law 708 = .ok (.iconst 1, 1) := by decide +kernel
theorem dL_law_709 : decode cL_law 709 = .ok (.iadd, 1) := by decide +kernel
theorem dL_law_710 : decode cL_law 710 = .ok (.iaload, 1) := by decide +kernel
theorem dL_law_711 : decode cL_law 711 = .ok (.aload_n 0, 1) := by decide +kernel
theorem dL_law_712 : decode cL_law 712 = .ok (.iload_n 3, 1) := by decide +kernel
theorem dL_law_713 : decode cL_law 713 = .ok (.iconst 2, 1) := by decide +kernel
theorem dL_law_714 : decode cL_law 714 = .ok (.iadd, 1) := by decide +kernel
theorem dL_law_715 : decode cL_law 715 = .ok (.iaload, 1) := by decide +kernel
theorem dL_law_716 : decode cL_law 716 = .ok (.aload_n 0, 1) := by decide +kernel
theorem dL_law_717 : decode cL_law 717 = .ok (.iload_n 3, 1) := by decide +kernel
theorem dL_law_718 : decode cL_law 718 = .ok (.iconst 3, 1) := by decide +kernel
theorem dL_law_719 : decode cL_law 719 = .ok (.iadd, 1) := by decide +kernel
theorem dL_law_720 : decode cL_law 720 = .ok (.iaload, 1) := by decide +kernel
theorem dL_law_721 : decode cL_law 721 = .ok (.invokevirtual 101, 3) := by decide +kernel
theorem dL_law_724 : decode cL_law 724 = .ok (.if_icmp .eq 230, 3) := by decide +kernel
theorem dL_law_727 : decode cL_law 727 = .ok (.iconst 0, 1) := by decide +kernel
theorem dL_law_728 : decode cL_law 728 = .ok (.ireturn, 1) := by decide +kernel
theorem dL_law_729 : decode cL_law 729 = .ok (.aload_n 1, 1) := by decide +kernel
theorem dL_law_730 : decode cL_law 730 = .ok (.aload_n 0, 1) := by decide +kernel
theorem dL_law_731 : decode cL_law 731 = .ok (.iload_n 3, 1) := by decide +kernel
theorem dL_law_732 : decode cL_law 732 = .ok (.iconst 1, 1) := by decide +kernel
theorem dL_law_733 : decode cL_law 733 = .ok (.iadd, 1) := by decide +kernel
theorem dL_law_734 : decode cL_law 734 = .ok (.iaload, 1) := by decide +kernel
theorem dL_law_735 : decode cL_law 735 = .ok (.aload_n 0, 1) := by decide +kernel
theorem dL_law_736 : decode cL_law 736 = .ok (.iload_n 3, 1) := by decide +kernel
theorem dL_law_737 : decode cL_law 737 = .ok (.iconst 2, 1) := by decide +kernel
theorem dL_law_738 : decode cL_law 738 = .ok (.iadd, 1) := by decide +kernel
theorem dL_law_739 : decode cL_law 739 = .ok (.iaload, 1) := by decide +kernel
theorem dL_law_740 : decode cL_law 740 = .ok (.invokevirtual 102, 3) := by decide +kernel
theorem dL_law_743 : decode cL_law 743 = .ok (.aload_n 2, 1) := by decide +kernel
theorem dL_law_744 : decode cL_law 744 = .ok (.aload_n 0, 1) := by decide +kernel
theorem dL_law_745 : decode cL_law 745 = .ok (.iload_n 3, 1) := by decide +kernel
theorem dL_law_746 : decode cL_law 746 = .ok (.iconst 1, 1) := by decide +kernel
theorem dL_law_747 : decode cL_law 747 = .ok (.iadd, 1) := by decide +kernel
theorem dL_law_748 : decode cL_law 748 = .ok (.iaload, 1) := by decide +kernel
theorem dL_law_749 : decode cL_law 749 = .ok (.aload_n 0, 1) := by decide +kernel
theorem dL_law_750 : decode cL_law 750 = .ok (.iload_n 3, 1) := by decide +kernel
theorem dL_law_751 : decode cL_law 751 = .ok (.iconst 2, 1) := by decide +kernel
theorem dL_law_752 : decode cL_law 752 = .ok (.iadd, 1) := by decide +kernel
theorem dL_law_753 : decode cL_law 753 = .ok (.iaload, 1) := by decide +kernel
theorem dL_law_754 : decode cL_law 754 = .ok (.invokevirtual 106, 3) := by decide +kernel
theorem dL_law_757 : decode cL_law 757 = .ok (.lcmp, 1) := by decide +kernel
theorem dL_law_758 : decode cL_law 758 = .ok (.ifCond .eq 196, 3) := by decide +kernel
theorem dL_law_761 : decode cL_law 761 = .ok (.iconst 0, 1) := by decide +kernel
theorem dL_law_762 : decode cL_law 762 = .ok (.ireturn, 1) := by decide +kernel
theorem dL_law_763 : decode cL_law 763 = .ok (.aload_n 1, 1) := by decide +kernel
theorem dL_law_764 : decode cL_law 764 = .ok (.aload_n 0, 1) := by decide +kernel
theorem dL_law_765 : decode cL_law 765 = .ok (.iload_n 3, 1) := by decide +kernel
theorem dL_law_766 : decode cL_law 766 = .ok (.iconst 1, 1) := by decide +kernel
theorem dL_law_767 : decode cL_law 767 = .ok (.iadd, 1) := by decide +kernel
theorem dL_law_768 : decode cL_law 768 = .ok (.iaload, 1) := by decide +kernel
theorem dL_law_769 : decode cL_law 769 = .ok (.aload_n 0, 1) := by decide +kernel
theorem dL_law_770 : decode cL_law 770 = .ok (.iload_n 3, 1) := by decide +kernel
theorem dL_law_771 : decode cL_law 771 = .ok (.iconst 2, 1) := by decide +kernel
theorem dL_law_772 : decode cL_law 772 = .ok (.iadd, 1) := by decide +kernel
theorem dL_law_773 : decode cL_law 773 = .ok (.iaload, 1) := by decide +kernel
theorem dL_law_774 : decode cL_law 774 = .ok (.i2l, 1) := by decide +kernel
theorem dL_law_775 : decode cL_law 775 = .ok (.bipush 32, 2) := by decide +kernel
theorem dL_law_777 : decode cL_law 777 = .ok (.lshl, 1) := by decide +kernel
theorem dL_law_778 : decode cL_law 778 = .ok (.aload_n 0, 1) := by decide +kernel
theorem dL_law_779 : decode cL_law 779 = .ok (.iload_n 3, 1) := by decide +kernel
theorem dL_law_780 : decode cL_law 780 = .ok (.iconst 3, 1) := by decide +kernel
theorem dL_law_781 : decode cL_law 781 = .ok (.iadd, 1) := by decide +kernel
theorem dL_law_782 : decode cL_law 782 = .ok (.iaload, 1) := by decide +kernel
theorem dL_law_783 : decode cL_law 783 = .ok (.i2l, 1) := by decide +kernel
theorem dL_law_784 : decode cL_law 784 = .ok (.ldc2_w 107, 3) := by decide +kernel
theorem dL_law_787 : decode cL_law 787 = .ok (.land, 1) := by decide +kernel
theorem dL_law_788 : decode cL_law 788 = .ok (.lor, 1) := by decide +kernel
theorem dL_law_789 : decode cL_law 789 = .ok (.invokevirtual 109, 3) := by decide +kernel
theorem dL_law_792 : decode cL_law 792 = .ok (.aload_n 2, 1) := by decide +kernel
theorem dL_law_793 : decode cL_law 793 = .ok (.aload_n 0, 1) := by decide +kernel
theorem dL_law_794 : decode cL_law 794 = .ok (.iload_n 3, 1) := by decide +kernel
theorem dL_law_795 : decode cL_law 795 = .ok (.iconst 1, 1) := by decide +kernel
theorem dL_law_796 : decode cL_law 796 = .ok (.iadd, 1) := by decide +kernel
theorem dL_law_797 : decode cL_law 797 = .ok (.iaload, 1) := by decide +kernel
theorem dL_law_798 : decode cL_law 798 = .ok (.aload_n 0, 1) := by decide +kernel
theorem dL_law_799 : decode cL_law 799 = .ok (.iload_n 3, 1) := by decide +kernel
theorem dL_law_800 : decode cL_law 800 = .ok (.iconst 2, 1) := by decide +kernel
theorem dL_law_801 : decode cL_law 801 = .ok (.iadd, 1) := by decide +kernel
theorem dL_law_802 : decode cL_law 802 = .ok (.iaload, 1) := by decide +kernel
theorem dL_law_803 : decode cL_law 803 = .ok (.i2l, 1) := by decide +kernel
theorem dL_law_804 : decode cL_law 804 = .ok (.bipush 32, 2) := by decide +kernel
theorem dL_law_806 : decode cL_law 806 = .ok (.lshl, 1) := by decide +kernel
theorem dL_law_807 : decode cL_law 807 = .ok (.aload_n 0, 1) := by decide +kernel
theorem dL_law_808 : decode cL_law 808 = .ok (.iload_n 3, 1) := by decide +kernel
theorem dL_law_809 : decode cL_law 809 = .ok (.iconst 3, 1) := by decide +kernel
theorem dL_law_810 : decode cL_law 810 = .ok (.iadd, 1) := by decide +kernel
theorem dL_law_811 : decode cL_law 811 = .ok (.iaload, 1) := by decide +kernel
theorem dL_law_812 : decode cL_law 812 = .ok (.i2l, 1) := by decide +kernel
theorem dL_law_813 : decode cL_law 813 = .ok (.ldc2_w 107, 3) := by decide +kernel
theorem dL_law_816 : decode cL_law 816 = .ok (.land, 1) := by decide +kernel
theorem dL_law_817 : decode cL_law 817 = .ok (.lor, 1) := by decide +kernel
theorem dL_law_818 : decode cL_law 818 = .ok (.invokevirtual 113, 3) := by decide +kernel
theorem dL_law_821 : decode cL_law 821 = .ok (.lcmp, 1) := by decide +kernel
theorem dL_law_822 : decode cL_law 822 = .ok (.ifCond .eq 132, 3) := by decide +kernel
theorem dL_law_825 : decode cL_law 825 = .ok (.iconst 0, 1) := by decide +kernel
theorem dL_law_826 : decode cL_law 826 = .ok (.ireturn, 1) := by decide +kernel
theorem dL_law_827 : decode cL_law 827 = .ok (.aload_n 1, 1) := by decide +kernel
theorem dL_law_828 : decode cL_law 828 = .ok (.aload_n 0, 1) := by decide +kernel
theorem dL_law_829 : decode cL_law 829 = .ok (.iload_n 3, 1) := by decide +kernel
theorem dL_law_830 : decode cL_law 830 = .ok (.iconst 1, 1) := by decide +kernel
theorem dL_law_831 : decode cL_law 831 = .ok (.iadd, 1) := by decide +kernel
theorem dL_law_832 : decode cL_law 832 = .ok (.iaload, 1) := by decide +kernel
theorem dL_law_833 : decode cL_law 833 = .ok (.invokevirtual 114, 3) := by decide +kernel
theorem dL_law_836 : decode cL_law 836 = .ok (.aload_n 2, 1) := by decide +kernel
theorem dL_law_837 : decode cL_law 837 = .ok (.aload_n 0, 1) := by decide +kernel
theorem dL_law_838 : decode cL_law 838 = .ok (.iload_n 3, 1) := by decide +kernel
theorem dL_law_839 : decode cL_law 839 = .ok (.iconst 1, 1) := by decide +kernel
theorem dL_law_840 : decode cL_law 840 = .ok (.iadd, 1) := by decide +kernel
theorem dL_law_841 : decode cL_law 841 = .ok (.iaload, 1) := by decide +kernel
theorem dL_law_842 : decode cL_law 842 = .ok (.invokevirtual 118, 3) := by decide +kernel
theorem dL_law_845 : decode cL_law 845 = .ok (.lcmp, 1) := by decide +kernel
theorem dL_law_846 : decode cL_law 846 = .ok (.ifCond .eq 108, 3) := by decide +kernel
theorem dL_law_849 : decode cL_law 849 = .ok (.iconst 0, 1) := by decide +kernel
theorem dL_law_850 : decode cL_law 850 = .ok (.ireturn, 1) := by decide +kernel
theorem dL_law_851 : decode cL_law 851 = .ok (.aload_n 1, 1) := by decide +kernel
theorem dL_law_852 : decode cL_law 852 = .ok (.aload_n 0, 1) := by decide +kernel
theorem dL_law_853 : decode cL_law 853 = .ok (.iload_n 3, 1) := by decide +kernel
theorem dL_law_854 : decode cL_law 854 = .ok (.iconst 1, 1) := by decide +kernel
theorem dL_law_855 : decode cL_law 855 = .ok (.iadd, 1) := by decide +kernel
theorem dL_law_856 : decode cL_law 856 = .ok (.iaload, 1) := by decide +kernel
theorem dL_law_857 : decode cL_law 857 = .ok (.aload_n 0, 1) := by decide +kernel
theorem dL_law_858 : decode cL_law 858 = .ok (.iload_n 3, 1) := by decide +kernel
theorem dL_law_859 : decode cL_law 859 = .ok (.iconst 2, 1) := by decide +kernel
theorem dL_law_860 : decode cL_law 860 = .ok (.iadd, 1) := by decide +kernel
theorem dL_law_861 : decode cL_law 861 = .ok (.iaload, 1) := by decide +kernel
theorem dL_law_862 : decode cL_law 862 = .ok (.invokevirtual 119, 3) := by decide +kernel
theorem dL_law_865 : decode cL_law 865 = .ok (.aload_n 2, 1) := by decide +kernel
theorem dL_law_866 : decode cL_law 866 = .ok (.aload_n 0, 1) := by decide +kernel
theorem dL_law_867 : decode cL_law 867 = .ok (.iload_n 3, 1) := by decide +kernel
theorem dL_law_868 : decode cL_law 868 = .ok (.iconst 1, 1) := by decide +kernel
theorem dL_law_869 : decode cL_law 869 = .ok (.iadd, 1) := by decide +kernel
theorem dL_law_870 : decode cL_law 870 = .ok (.iaload, 1) := by decide +kernel
theorem dL_law_871 : decode cL_law 871 = .ok (.aload_n 0, 1) := by decide +kernel
theorem dL_law_872 : decode cL_law 872 = .ok (.iload_n 3, 1) := by decide +kernel
theorem dL_law_873 : decode cL_law 873 = .ok (.iconst 2, 1) := by decide +kernel
theorem dL_law_874 : decode cL_law 874 = .ok (.iadd, 1) := by decide +kernel
theorem dL_law_875 : decode cL_law 875 = .ok (.iaload, 1) := by decide +kernel
theorem dL_law_876 : decode cL_law 876 = .ok (.invokevirtual 122, 3) := by decide +kernel
theorem dL_law_879 : decode cL_law 879 = .ok (.if_icmp .eq 75, 3) := by decide +kernel
theorem dL_law_882 : decode cL_law 882 = .ok (.iconst 0, 1) := by decide +kernel
theorem dL_law_883 : decode cL_law 883 = .ok (.ireturn, 1) := by decide +kernel
theorem dL_law_884 : decode cL_law 884 = .ok (.aload_n 1, 1) := by decide +kernel
theorem dL_law_885 : decode cL_law 885 = .ok (.aload_n 0, 1) := by decide +kernel
theorem dL_law_886 : decode cL_law 886 = .ok (.iload_n 3, 1) := by decide +kernel
theorem dL_law_887 : decode cL_law 887 = .ok (.iconst 1, 1) := by decide +kernel
theorem dL_law_888 : decode cL_law 888 = .ok (.iadd, 1) := by decide +kernel
theorem dL_law_889 : decode cL_law 889 = .ok (.iaload, 1) := by decide +kernel
theorem dL_law_890 : decode cL_law 890 = .ok (.aload_n 0, 1) := by decide +kernel
theorem dL_law_891 : decode cL_law 891 = .ok (.iload_n 3, 1) := by decide +kernel
theorem dL_law_892 : decode cL_law 892 = .ok (.iconst 2, 1) := by decide +kernel
theorem dL_law_893 : decode cL_law 893 = .ok (.iadd, 1) := by decide +kernel
theorem dL_law_894 : decode cL_law 894 = .ok (.iaload, 1) := by decide +kernel
theorem dL_law_895 : decode cL_law 895 = .ok (.invokevirtual 123, 3) := by decide +kernel
theorem dL_law_898 : decode cL_law 898 = .ok (.aload_n 2, 1) := by decide +kernel
theorem dL_law_899 : decode cL_law 899 = .ok (.aload_n 0, 1) := by decide +kernel
theorem dL_law_900 : decode cL_law 900 = .ok (.iload_n 3, 1) := by decide +kernel
theorem dL_law_901 : decode cL_law 901 = .ok (.iconst 1, 1) := by decide +kernel
theorem dL_law_902 : decode cL_law 902 = .ok (.iadd, 1) := by decide +kernel
theorem dL_law_903 : decode cL_law 903 = .ok (.iaload, 1) := by decide +kernel
theorem dL_law_904 : decode cL_law 904 = .ok (.aload_n 0, 1) := by decide +kernel
theorem dL_law_905 : decode cL_law 905 = .ok (.iload_n 3, 1) := by decide +kernel
theorem dL_law_906 : decode cL_law 906 = .ok (.iconst 2, 1) := by decide +kernel
theorem dL_law_907 : decode cL_law 907 = .ok (.iadd, 1) := by decide +kernel
theorem dL_law_908 : decode cL_law 908 = .ok (.iaload, 1) := by decide +kernel
theorem dL_law_909 : decode cL_law 909 = .ok (.invokevirtual 126, 3) := by decide +kernel
theorem dL_law_912 : decode cL_law 912 = .ok (.if_icmp .eq 42, 3) := by decide +kernel
theorem dL_law_915 : decode cL_law 915 = .ok (.iconst 0, 1) := by decide +kernel
theorem dL_law_916 : decode cL_law 916 = .ok (.ireturn, 1) := by decide +kernel
theorem dL_law_917 : decode cL_law 917 = .ok (.aload_n 1, 1) := by decide +kernel
theorem dL_law_918 : decode cL_law 918 = .ok (.aload_n 0, 1) := by decide +kernel
theorem dL_law_919 : decode cL_law 919 = .ok (.iload_n 3, 1) := by decide +kernel
theorem dL_law_920 : decode cL_law 920 = .ok (.iconst 1, 1) := by decide +kernel
theorem dL_law_921 : decode cL_law 921 = .ok (.iadd, 1) := by decide +kernel
theorem dL_law_922 : decode cL_law 922 = .ok (.iaload, 1) := by decide +kernel
theorem dL_law_923 : decode cL_law 923 = .ok (.invokevirtual 127, 3) := by decide +kernel
theorem dL_law_926 : decode cL_law 926 = .ok (.aload_n 2, 1) := by decide +kernel
theorem dL_law_927 : decode cL_law 927 = .ok (.aload_n 0, 1) := by decide +kernel
theorem dL_law_928 : decode cL_law 928 = .ok (.iload_n 3, 1) := by decide +kernel
theorem dL_law_929 : decode cL_law 929 = .ok (.iconst 1, 1) := by decide +kernel
theorem dL_law_930 : decode cL_law 930 = .ok (.iadd, 1) := by decide +kernel
theorem dL_law_931 : decode cL_law 931 = .ok (.iaload, 1) := by decide +kernel
theorem dL_law_932 : decode cL_law 932 = .ok (.invokevirtual 130, 3) := by decide +kernel
theorem dL_law_935 : decode cL_law 935 = .ok (.if_icmp .eq 19, 3) := by decide +kernel
theorem dL_law_938 : decode cL_law 938 = .ok (.iconst 0, 1) := by decide +kernel
theorem dL_law_939 : decode cL_law 939 = .ok (.ireturn, 1) := by decide +kernel
theorem dL_law_940 : decode cL_law 940 = .ok (.aload_n 1, 1) := by decide +kernel
theorem dL_law_941 : decode cL_law 941 = .ok (.invokevirtual 131, 3) := by decide +kernel
theorem dL_law_944 : decode cL_law 944 = .ok (.aload_n 2, 1) := by decide +kernel
theorem dL_law_945 : decode cL_law 945 = .ok (.invokevirtual 135, 3) := by decide +kernel
theorem dL_law_948 : decode cL_law 948 = .ok (.lcmp, 1) := by decide +kernel
theorem dL_law_949 : decode cL_law 949 = .ok (.ifCond .eq 5, 3) := by decide +kernel
theorem dL_law_952 : decode cL_law 952 = .ok (.iconst 0, 1) := by decide +kernel
theorem dL_law_953 : decode cL_law 953 = .ok (.ireturn, 1) := by decide +kernel
theorem dL_law_954 : decode cL_law 954 = .ok (.iinc 3 4, 3) := by decide +kernel
theorem dL_law_957 : decode cL_law 957 = .ok (.goto (-939), 3) := by decide +kernel
theorem dL_law_960 : decode cL_law 960 = .ok (.iconst 1, 1) := by decide +kernel
theorem dL_law_961 : decode cL_law 961 = .ok (.ireturn, 1) := by decide +kernel
