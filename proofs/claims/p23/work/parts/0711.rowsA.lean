theorem goodIn_hd {big T : List Cond} {c : Cond} (hc : c ∈ big) (hg : k2_isCode c = true) (hT : GoodIn big T) : GoodIn big (c :: T) := by
  intro w hw
  rcases List.mem_cons.mp hw with rfl | h
  · refine ⟨hc, ?_⟩
    cases w <;> first | (simp [k2_isCode] at hg; done) | exact Or.inl rfl
  · exact hT w h
theorem goodIn_one {big : List Cond} {c : Cond} (hc : c ∈ big) (hg : k2_isCode c = true) : GoodIn big [c] := goodIn_hd hc hg (fun _ h => absurd h List.not_mem_nil)
theorem goodIn_up_L_law {ws : List Cond} (h : GoodIn wsL_law1 ws) : GoodIn wsL_law ws := fun w hw => ⟨List.mem_append_left _ (h w hw).1, (h w hw).2⟩
theorem goodIn_up_L_build {ws : List Cond} (h : GoodIn wsL_build1 ws) : GoodIn wsL_build ws := fun w hw => ⟨(List.mem_cons.mp (h w hw).1).elim (fun e => e ▸ List.mem_cons_self) (fun q => List.mem_cons_of_mem _ (List.mem_append_left _ q)), (h w hw).2⟩
theorem bigA_law : Cond.code yL_act cL_act 15 (some .boolean) ∈ wsL_law := List.mem_append_right _ List.mem_cons_self
theorem bigS_law : Cond.code yX6_isSame cX6_isSame 8 (some .boolean) ∈ wsL_law := List.mem_append_right _ (List.mem_cons_of_mem _ List.mem_cons_self)
theorem bigA_build : Cond.code yL_act cL_act 15 (some .boolean) ∈ wsL_build := List.mem_cons_of_mem _ (List.mem_append_right _ List.mem_cons_self)
theorem dL_below_0 : decode cL_below 0 = .ok (.iload_n 0, 1) := by decide +kernel
theorem dL_below_1 : decode cL_below 1 = .ok (.ldc 7, 2) := by decide +kernel
theorem dL_below_3 : decode cL_below 3 = .ok (.iand, 1) := by decide +kernel
theorem dL_below_4 : decode cL_below 4 = .ok (.iload_n 1, 1) := by decide +kernel
theorem dL_below_5 : decode cL_below 5 = .ok (.irem, 1) := by decide +kernel
theorem dL_below_6 : decode cL_below 6 = .ok (.ireturn, 1) := by decide +kernel
theorem dL_cell_0 : decode cL_cell 0 = .ok (.iload_n 1, 1) := by decide +kernel
theorem dL_cell_1 : decode cL_cell 1 = .ok (.aload_n 0, 1) := by decide +kernel
theorem dL_cell_2 : decode cL_cell 2 = .ok (.arraylength, 1) := by decide +kernel
theorem dL_cell_3 : decode cL_cell 3 = .ok (.if_icmp .ge 9, 3) := by decide +kernel
theorem dL_cell_6 : decode cL_cell 6 = .ok (.aload_n 0, 1) := by decide +kernel
theorem dL_cell_7 : decode cL_cell 7 = .ok (.iload_n 1, 1) := by decide +kernel
theorem dL_cell_8 : decode cL_cell 8 = .ok (.iaload, 1) := by decide +kernel
theorem dL_cell_9 : decode cL_cell 9 = .ok (.goto 9, 3) := by decide +kernel
theorem dL_cell_12 : decode cL_cell 12 = .ok (.ldc 8, 2) := by decide +kernel
theorem dL_cell_14 : decode cL_cell 14 = .ok (.iload_n 1, 1) := by decide +kernel
theorem dL_cell_15 : decode cL_cell 15 = .ok (.iconst 3, 1) := by decide +kernel
theorem dL_cell_16 : decode cL_cell 16 = .ok (.iadd, 1) := by decide +kernel
theorem dL_cell_17 : decode cL_cell 17 = .ok (.imul, 1) := by decide +kernel
theorem dL_cell_18 : decode cL_cell 18 = .ok (.ireturn, 1) := by decide +kernel
set_option maxRecDepth 20000 in
theorem ggL_act_L_below : GoodIn wsL_act wsL_below := goodIn_r _ [10, 11] (by decide +kernel) (by decide +kernel)
set_option maxRecDepth 20000 in
theorem gL_act_L_below : GoodIn wsL_act (va_wsS RL 15 yL_below wsL_below) := goodIn_app (goodIn_of _ (by decide +kernel)) ggL_act_L_below
set_option maxRecDepth 20000 in
theorem ggL_act_X6_more : GoodIn wsL_act wsX6_more := goodIn_r _ [15, 16] (by decide +kernel) (by decide +kernel)
set_option maxRecDepth 20000 in
theorem gL_act_X6_more : GoodIn wsL_act (va_wsS RL 21 yX6_more wsX6_more) := goodIn_app (goodIn_of _ (by decide +kernel)) ggL_act_X6_more
set_option maxRecDepth 20000 in
theorem ggL_act_X5_dimmer : GoodIn wsL_act wsX5_dimmer := goodIn_ca (goodIn_ca (goodIn_r _ [21, 22, 23, 24, 25, 26, 27, 28, 29, 30, 20, 31, 32, 33, 34, 35, 36, 37, 38, 39, 40, 41, 42, 125, 126, 127, 128, 129, 130, 131, 132, 133, 134, 135, 136, 137, 138, 139, 140, 141, 142, 143] (by decide +kernel) (by decide +kernel)) (goodIn_sub (fun _ h => List.mem_cons_of_mem _ (List.mem_append_left _ (List.mem_append_left _ (List.mem_append_right _ h)))) (by decide +kernel))) (goodIn_sub (fun _ h => List.mem_cons_of_mem _ (List.mem_append_left _ (List.mem_append_right _ h))) (by decide +kernel))
set_option maxRecDepth 20000 in
theorem gL_act_X5_dimmer : GoodIn wsL_act (wsV RL 25 RX5 yX5_dimmer wsX5_dimmer) := goodIn_app (goodIn_of _ (by decide +kernel)) ggL_act_X5_dimmer
set_option maxRecDepth 20000 in
theorem ggL_act_X5_lamp : GoodIn wsL_act wsX5_lamp := goodIn_ca (goodIn_ca (goodIn_r _ [46, 47, 48, 22, 23, 26, 27, 49, 50, 51, 35, 52, 37, 29, 30, 20, 31, 53, 54, 55, 56, 42, 57, 58, 59, 60, 61, 39, 125, 126, 127, 128, 129, 130, 131, 132, 133, 134, 135, 136, 137, 138, 139, 140, 141, 142, 143] (by decide +kernel) (by decide +kernel)) (goodIn_sub (fun _ h => List.mem_cons_of_mem _ (List.mem_append_right _ h)) (by decide +kernel))) (goodIn_sub (fun _ h => List.mem_cons_of_mem _ (List.mem_append_left _ (List.mem_append_left _ (List.mem_append_right _ h)))) (by decide +kernel))
set_option maxRecDepth 20000 in
theorem gL_act_X5_lamp : GoodIn wsL_act (wsV RL 31 RX5 yX5_lamp wsX5_lamp) := goodIn_app (goodIn_of _ (by decide +kernel)) ggL_act_X5_lamp
set_option maxRecDepth 20000 in
theorem ggL_act_X5_star : GoodIn wsL_act wsX5_star := goodIn_ca (goodIn_ca (goodIn_r _ [65, 22, 23, 24, 25, 66, 67, 29, 30, 20, 31, 68, 69, 70, 71, 72, 73, 74, 75, 125, 126, 127, 128, 144, 145, 146] (by decide +kernel) (by decide +kernel)) (goodIn_sub (fun _ h => List.mem_cons_of_mem _ (List.mem_append_left _ (List.mem_append_left _ (List.mem_append_right _ h)))) (by decide +kernel))) (goodIn_sub (fun _ h => List.mem_cons_of_mem _ (List.mem_append_left _ (List.mem_append_right _ h))) (by decide +kernel))
set_option maxRecDepth 20000 in
theorem gL_act_X5_star : GoodIn wsL_act (wsV RL 37 RX5 yX5_star wsX5_star) := goodIn_app (goodIn_of _ (by decide +kernel)) ggL_act_X5_star
set_option maxRecDepth 20000 in
theorem ggL_act_X5_cue : GoodIn wsL_act wsX5_cue := goodIn_ca (goodIn_ca (goodIn_r _ [79, 22, 23, 24, 25, 80, 81, 29, 30, 20, 31, 82, 83, 84, 85, 26, 27, 49, 50, 51, 35, 52, 37, 86, 87, 88, 89, 90, 91, 92, 93, 94, 95, 125, 126, 127, 128, 147, 148, 149, 150, 151, 129, 130, 131, 132, 133, 134, 135, 136, 137, 138, 139, 140, 141, 142, 143] (by decide +kernel) (by decide +kernel)) (goodIn_sub (fun _ h => List.mem_cons_of_mem _ (List.mem_append_left _ (List.mem_append_left _ (List.mem_append_right _ h)))) (by decide +kernel))) (goodIn_sub (fun _ h => List.mem_cons_of_mem _ (List.mem_append_left _ (List.mem_append_right _ h))) (by decide +kernel))
set_option maxRecDepth 20000 in
theorem gL_act_X5_cue : GoodIn wsL_act (wsV RL 47 RX5 yX5_cue wsX5_cue) := goodIn_app (goodIn_of _ (by decide +kernel)) ggL_act_X5_cue
set_option maxRecDepth 20000 in
theorem ggL_act_X5_run : GoodIn wsL_act wsX5_run := goodIn_r _ [99, 26, 100, 125, 126, 127, 128, 129, 130, 131, 132, 133, 134, 135, 136, 137] (by decide +kernel) (by decide +kernel)
set_option maxRecDepth 20000 in
theorem gL_act_X5_run : GoodIn wsL_act (wsV RL 55 RX5 yX5_run wsX5_run) := goodIn_app (goodIn_of _ (by decide +kernel)) ggL_act_X5_run
set_option maxRecDepth 20000 in
theorem ggL_act_X5_jump : GoodIn wsL_act wsX5_jump := goodIn_ca (goodIn_r _ [104, 22, 23, 26, 105, 29, 30, 20, 31, 125, 126, 127, 128, 129, 130, 131, 132, 133, 134, 135, 136, 137] (by decide +kernel) (by decide +kernel)) (goodIn_sub (fun _ h => List.mem_cons_of_mem _ (List.mem_append_left _ (List.mem_append_left _ (List.mem_append_right _ h)))) (by decide +kernel))
set_option maxRecDepth 20000 in
theorem gL_act_X5_jump : GoodIn wsL_act (wsV RL 59 RX5 yX5_jump wsX5_jump) := goodIn_app (goodIn_of _ (by decide +kernel)) ggL_act_X5_jump
set_option maxRecDepth 20000 in
theorem ggL_act_X5_fade : GoodIn wsL_act wsX5_fade := goodIn_ca (goodIn_ca (goodIn_r _ [109, 47, 48, 22, 23, 26, 27, 49, 50, 51, 35, 52, 37, 29, 30, 20, 31, 110, 111, 112, 113, 40, 57, 125, 126, 127, 128, 129, 130, 131, 132, 133, 134, 135, 136, 137, 138, 139, 140, 141, 142, 143] (by decide +kernel) (by decide +kernel)) (goodIn_sub (fun _ h => List.mem_cons_of_mem _ (List.mem_append_right _ h)) (by decide +kernel))) (goodIn_sub (fun _ h => List.mem_cons_of_mem _ (List.mem_append_left _ (List.mem_append_left _ (List.mem_append_right _ h)))) (by decide +kernel))
set_option maxRecDepth 20000 in
theorem gL_act_X5_fade : GoodIn wsL_act (wsV RL 63 RX5 yX5_fade wsX5_fade) := goodIn_app (goodIn_of _ (by decide +kernel)) ggL_act_X5_fade
theorem dL_act_0 : decode cL_act 0 = .ok (.aload_n 1, 1) := by decide +kernel
theorem dL_act_1 : decode cL_act 1 = .ok (.getfield 9, 3) := by decide +kernel
theorem dL_act_4 : decode cL_act 4 = .ok (.arraylength, 1) := by decide +kernel
theorem dL_act_5 : decode cL_act 5 = .ok (.istore_n 3, 1) := by decide +kernel
theorem dL_act_6 : decode cL_act 6 = .ok (.iload_n 3, 1) := by decide +kernel
theorem dL_act_7 : decode cL_act 7 = .ok (.ifCond .ne 7, 3) := by decide +kernel
theorem dL_act_10 : decode cL_act 10 = .ok (.iconst 0, 1) := by decide +kernel
theorem dL_act_11 : decode cL_act 11 = .ok (.goto 8, 3) := by decide +kernel
theorem dL_act_14 : decode cL_act 14 = .ok (.iload_n 2, 1) := by decide +kernel
theorem dL_act_15 : decode cL_act 15 = .ok (.iload_n 3, 1) := by decide +kernel
theorem dL_act_16 : decode cL_act 16 = .ok (.invokestatic 15, 3) := by decide +kernel
theorem dL_act_19 : decode cL_act 19 = .ok (.istore 4, 2) := by decide +kernel
theorem dL_act_21 : decode cL_act 21 = .ok (.iload_n 3, 1) := by decide +kernel
theorem dL_act_22 : decode cL_act 22 = .ok (.ifCond .ne 7, 3) := by decide +kernel
theorem dL_act_25 : decode cL_act 25 = .ok (.iconst 0, 1) := by decide +kernel
theorem dL_act_26 : decode cL_act 26 = .ok (.goto 12, 3) := by decide +kernel
theorem dL_act_29 : decode cL_act 29 = .ok (.iload_n 2, 1) := by decide +kernel
theorem dL_act_30 : decode cL_act 30 = .ok (.bipush 9, 2) := by decide +kernel
theorem dL_act_32 : decode cL_act 32 = .ok (.ishr, 1) := by decide +kernel
theorem dL_act_33 : decode cL_act 33 = .ok (.bipush 16, 2) := by decide +kernel
theorem dL_act_35 : decode cL_act 35 = .ok (.invokestatic 15, 3) := by decide +kernel
theorem dL_act_38 : decode cL_act 38 = .ok (.tableswitch 694 0 12 #[66, 177, 269, 269, 359, 359, 359, 359, 359, 602, 602, 602, 635], 66) := by decide +kernel
theorem dL_act_104 : decode cL_act 104 = .ok (.iload_n 3, 1) := by decide +kernel
theorem dL_act_105 : decode cL_act 105 = .ok (.bipush 8, 2) := by decide +kernel
theorem dL_act_107 : decode cL_act 107 = .ok (.if_icmp .ne 5, 3) := by decide +kernel
theorem dL_act_110 : decode cL_act 110 = .ok (.iconst 1, 1) := by decide +kernel
theorem dL_act_111 : decode cL_act 111 = .ok (.ireturn, 1) := by decide +kernel
theorem dL_act_112 : decode cL_act 112 = .ok (.iload_n 2, 1) := by decide +kernel
theorem dL_act_113 : decode cL_act 113 = .ok (.bipush 12, 2) := by decide +kernel
theorem dL_act_115 : decode cL_act 115 = .ok (.invokestatic 15, 3) := by decide +kernel
theorem dL_act_118 : decode cL_act 118 = .ok (.istore 5, 2) := by decide +kernel
theorem dL_act_120 : decode cL_act 120 = .ok (.iconst 1, 1) := by decide +kernel
theorem dL_act_121 : decode cL_act 121 = .ok (.iload_n 2, 1) := by decide +kernel
theorem dL_act_122 : decode cL_act 122 = .ok (.iconst 3, 1) := by decide +kernel
theorem dL_act_123 : decode cL_act 123 = .ok (.ishr, 1) := by decide +kernel
theorem dL_act_124 : decode cL_act 124 = .ok (.bipush 50, 2) := by decide +kernel
theorem dL_act_126 : decode cL_act 126 = .ok (.invokestatic 15, 3) := by decide +kernel
theorem dL_act_129 : decode cL_act 129 = .ok (.iadd, 1) := by decide +kernel
theorem dL_act_130 : decode cL_act 130 = .ok (.istore 6, 2) := by decide +kernel
theorem dL_act_132 : decode cL_act 132 = .ok (.iload_n 2, 1) := by decide +kernel
theorem dL_act_133 : decode cL_act 133 = .ok (.iconst 2, 1) := by decide +kernel
theorem dL_act_134 : decode cL_act 134 = .ok (.ishr, 1) := by decide +kernel
theorem dL_act_135 : decode cL_act 135 = .ok (.iload_n 2, 1) := by decide +kernel
theorem dL_act_136 : decode cL_act 136 = .ok (.iconst 5, 1) := by decide +kernel
theorem dL_act_137 : decode cL_act 137 = .ok (.ishr, 1) := by decide +kernel
theorem dL_act_138 : decode cL_act 138 = .ok (.iconst 2, 1) := by decide +kernel
theorem dL_act_139 : decode cL_act 139 = .ok (.invokestatic 15, 3) := by decide +kernel
theorem dL_act_142 : decode cL_act 142 = .ok (.ifCond .ne 9, 3) := by decide +kernel
theorem dL_act_145 : decode cL_act 145 = .ok (.sipush 10000, 3) := by decide +kernel
theorem dL_act_148 : decode cL_act 148 = .ok (.goto 5, 3) := by decide +kernel
theorem dL_act_151 : decode cL_act 151 = .ok (.bipush 90, 2) := by decide +kernel
theorem dL_act_153 : decode cL_act 153 = .ok (.invokestatic 15, 3) := by decide +kernel
theorem dL_act_156 : decode cL_act 156 = .ok (.istore 7, 2) := by decide +kernel
theorem dL_act_158 : decode cL_act 158 = .ok (.aload_n 1, 1) := by decide +kernel
theorem dL_act_159 : decode cL_act 159 = .ok (.aload_n 1, 1) := by decide +kernel
theorem dL_act_160 : decode cL_act 160 = .ok (.getfield 9, 3) := by decide +kernel
theorem dL_act_163 : decode cL_act 163 = .ok (.iconst 5, 1) := by decide +kernel
theorem dL_act_164 : decode cL_act 164 = .ok (.newarray .int, 2) := by decide +kernel
theorem dL_act_166 : decode cL_act 166 = .ok (.dup, 1) := by decide +kernel
theorem dL_act_167 : decode cL_act 167 = .ok (.iconst 0, 1) := by decide +kernel
theorem dL_act_168 : decode cL_act 168 = .ok (.iload 5, 2) := by decide +kernel
theorem dL_act_170 : decode cL_act 170 = .ok (.iastore, 1) := by decide +kernel
theorem dL_act_171 : decode cL_act 171 = .ok (.dup, 1) := by decide +kernel
theorem dL_act_172 : decode cL_act 172 = .ok (.iconst 1, 1) := by decide +kernel
theorem dL_act_173 : decode cL_act 173 = .ok (.iconst 0, 1) := by decide +kernel
theorem dL_act_174 : decode cL_act 174 = .ok (.iastore, 1) := by decide +kernel
theorem dL_act_175 : decode cL_act 175 = .ok (.dup, 1) := by decide +kernel
theorem dL_act_176 : decode cL_act 176 = .ok (.iconst 2, 1) := by decide +kernel
theorem dL_act_177 : decode cL_act 177 = .ok (.iconst 0, 1) := by decide +kernel
theorem dL_act_178 : decode cL_act 178 = .ok (.iastore, 1) := by decide +kernel
theorem dL_act_179 : decode cL_act 179 = .ok (.dup, 1) := by decide +kernel
theorem dL_act_180 : decode cL_act 180 = .ok (.iconst 3, 1) := by decide +kernel
theorem dL_act_181 : decode cL_act 181 = .ok (.iload 6, 2) := by decide +kernel
theorem dL_act_183 : decode cL_act 183 = .ok (.iastore, 1) := by decide +kernel
theorem dL_act_184 : decode cL_act 184 = .ok (.dup, 1) := by decide +kernel
theorem dL_act_185 : decode cL_act 185 = .ok (.iconst 4, 1) := by decide +kernel
theorem dL_act_186 : decode cL_act 186 = .ok (.iload 7, 2) := by decide +kernel
theorem dL_act_188 : decode cL_act 188 = .ok (.iastore, 1) := by decide +kernel
theorem dL_act_189 : decode cL_act 189 = .ok (.invokestatic 21, 3) := by decide +kernel
theorem dL_act_192 : decode cL_act 192 = .ok (.putfield 9, 3) := by decide +kernel
theorem dL_act_195 : decode cL_act 195 = .ok (.aload_n 0, 1) := by decide +kernel
theorem dL_act_196 : decode cL_act 196 = .ok (.iload 5, 2) := by decide +kernel
theorem dL_act_198 : decode cL_act 198 = .ok (.iload 6, 2) := by decide +kernel
theorem dL_act_200 : decode cL_act 200 = .ok (.iload 7, 2) := by decide +kernel
theorem dL_act_202 : decode cL_act 202 = .ok (.invokevirtual 25, 3) := by decide +kernel
theorem dL_act_205 : decode cL_act 205 = .ok (.iload_n 3, 1) := by decide +kernel
theorem dL_act_206 : decode cL_act 206 = .ok (.if_icmp .ne 7, 3) := by decide +kernel
theorem dL_act_209 : decode cL_act 209 = .ok (.iconst 1, 1) := by decide +kernel
theorem dL_act_210 : decode cL_act 210 = .ok (.goto 4, 3) := by decide +kernel
theorem dL_act_213 : decode cL_act 213 = .ok (.iconst 0, 1) := by decide +kernel
theorem dL_act_214 : decode cL_act 214 = .ok (.ireturn, 1) := by decide +kernel
theorem dL_act_215 : decode cL_act 215 = .ok (.aload_n 1, 1) := by decide +kernel
theorem dL_act_216 : decode cL_act 216 = .ok (.getfield 9, 3) := by decide +kernel
theorem dL_act_219 : decode cL_act 219 = .ok (.iload 4, 2) := by decide +kernel
theorem dL_act_221 : decode cL_act 221 = .ok (.aaload, 1) := by decide +kernel
theorem dL_act_222 : decode cL_act 222 = .ok (.iconst 4, 1) := by decide +kernel
theorem dL_act_223 : decode cL_act 223 = .ok (.iaload, 1) := by decide +kernel
theorem dL_act_224 : decode cL_act 224 = .ok (.istore 8, 2) := by decide +kernel
theorem dL_act_226 : decode cL_act 226 = .ok (.aload_n 1, 1) := by decide +kernel
theorem dL_act_227 : decode cL_act 227 = .ok (.getfield 9, 3) := by decide +kernel
theorem dL_act_230 : decode cL_act 230 = .ok (.iload 4, 2) := by decide +kernel
theorem dL_act_232 : decode cL_act 232 = .ok (.aaload, 1) := by decide +kernel
theorem dL_act_233 : decode cL_act 233 = .ok (.iconst 4, 1) := by decide +kernel
theorem dL_act_234 : decode cL_act 234 = .ok (.iload_n 2, 1) := by decide +kernel
theorem dL_act_235 : decode cL_act 235 = .ok (.iconst 4, 1) := by decide +kernel
theorem dL_act_236 : decode cL_act 236 = .ok (.ishr, 1) := by decide +kernel
theorem dL_act_237 : decode cL_act 237 = .ok (.iconst 4, 1) := by decide +kernel
theorem dL_act_238 : decode cL_act 238 = .ok (.invokestatic 15, 3) := by decide +kernel
theorem dL_act_241 : decode cL_act 241 = .ok (.ifCond .ne 7, 3) := by decide +kernel
theorem dL_act_244 : decode cL_act 244 = .ok (.iconst 0, 1) := by decide +kernel
theorem dL_act_245 : decode cL_act 245 = .ok (.goto 13, 3) := by decide +kernel
theorem dL_act_248 : decode cL_act 248 = .ok (.iload_n 2, 1) := by decide +kernel
theorem dL_act_249 : decode cL_act 249 = .ok (.bipush 7, 2) := by decide +kernel
theorem dL_act_251 : decode cL_act 251 = .ok (.imul, 1) := by decide +kernel
theorem dL_act_252 : decode cL_act 252 = .ok (.sipush 600, 3) := by decide +kernel
theorem dL_act_255 : decode cL_act 255 = .ok (.invokestatic 15, 3) := by decide +kernel
theorem dL_act_258 : decode cL_act 258 = .ok (.iastore, 1) := by decide +kernel
theorem dL_act_259 : decode cL_act 259 = .ok (.aload_n 1, 1) := by decide +kernel
theorem dL_act_260 : decode cL_act 260 = .ok (.getfield 9, 3) := by decide +kernel
theorem dL_act_263 : decode cL_act 263 = .ok (.iload 4, 2) := by decide +kernel
theorem dL_act_265 : decode cL_act 265 = .ok (.aaload, 1) := by decide +kernel
theorem dL_act_266 : decode cL_act 266 = .ok (.iconst 4, 1) := by decide +kernel
theorem dL_act_267 : decode cL_act 267 = .ok (.iaload, 1) := by decide +kernel
theorem dL_act_268 : decode cL_act 268 = .ok (.ifCond .ne 13, 3) := by decide +kernel
theorem dL_act_271 : decode cL_act 271 = .ok (.aload_n 1, 1) := by decide +kernel
theorem dL_act_272 : decode cL_act 272 = .ok (.getfield 9, 3) := by decide +kernel
theorem dL_act_275 : decode cL_act 275 = .ok (.iload 4, 2) := by decide +kernel
theorem dL_act_277 : decode cL_act 277 = .ok (.aaload, 1) := by decide +kernel
theorem dL_act_278 : decode cL_act 278 = .ok (.iconst 1, 1) := by decide +kernel
theorem dL_act_279 : decode cL_act 279 = .ok (.iconst 0, 1) := by decide +kernel
theorem dL_act_280 : decode cL_act 280 = .ok (.iastore, 1) := by decide +kernel
theorem dL_act_281 : decode cL_act 281 = .ok (.aload_n 0, 1) := by decide +kernel
theorem dL_act_282 : decode cL_act 282 = .ok (.iload 4, 2) := by decide +kernel
theorem dL_act_284 : decode cL_act 284 = .ok (.aload_n 1, 1) := by decide +kernel
theorem dL_act_285 : decode cL_act 285 = .ok (.getfield 9, 3) := by decide +kernel
theorem dL_act_288 : decode cL_act 288 = .ok (.iload 4, 2) := by decide +kernel
theorem dL_act_290 : decode cL_act 290 = .ok (.aaload, 1) := by decide +kernel
theorem dL_act_291 : decode cL_act 291 = .ok (.iconst 4, 1) := by decide +kernel
theorem dL_act_292 : decode cL_act 292 = .ok (.iaload, 1) := by decide +kernel
theorem dL_act_293 : decode cL_act 293 = .ok (.invokevirtual 31, 3) := by decide +kernel
theorem dL_act_296 : decode cL_act 296 = .ok (.iload 8, 2) := by decide +kernel
theorem dL_act_298 : decode cL_act 298 = .ok (.if_icmp .ne 7, 3) := by decide +kernel
theorem dL_act_301 : decode cL_act 301 = .ok (.iconst 1, 1) := by decide +kernel
theorem dL_act_302 : decode cL_act 302 = .ok (.goto 4, 3) := by decide +kernel
theorem dL_act_305 : decode cL_act 305 = .ok (.iconst 0, 1) := by decide +kernel
theorem dL_act_306 : decode cL_act 306 = .ok (.ireturn, 1) := by decide +kernel
theorem dL_act_307 : decode cL_act 307 = .ok (.aload_n 1, 1) := by decide +kernel
theorem dL_act_308 : decode cL_act 308 = .ok (.getfield 34, 3) := by decide +kernel
theorem dL_act_311 : decode cL_act 311 = .ok (.arraylength, 1) := by decide +kernel
theorem dL_act_312 : decode cL_act 312 = .ok (.bipush 20, 2) := by decide +kernel
theorem dL_act_314 : decode cL_act 314 = .ok (.if_icmp .ne 5, 3) := by decide +kernel
theorem dL_act_317 : decode cL_act 317 = .ok (.iconst 1, 1) := by decide +kernel
theorem dL_act_318 : decode cL_act 318 = .ok (.ireturn, 1) := by decide +kernel
theorem dL_act_319 : decode cL_act 319 = .ok (.aload_n 1, 1) := by decide +kernel
theorem dL_act_320 : decode cL_act 320 = .ok (.aload_n 1, 1) := by decide +kernel
theorem dL_act_321 : decode cL_act 321 = .ok (.getfield 34, 3) := by decide +kernel
theorem dL_act_324 : decode cL_act 324 = .ok (.iconst 2, 1) := by decide +kernel
theorem dL_act_325 : decode cL_act 325 = .ok (.newarray .int, 2) := by decide +kernel
theorem dL_act_327 : decode cL_act 327 = .ok (.dup, 1) := by decide +kernel
theorem dL_act_328 : decode cL_act 328 = .ok (.iconst 0, 1) := by decide +kernel
theorem dL_act_329 : decode cL_act 329 = .ok (.iload_n 2, 1) := by decide +kernel
theorem dL_act_330 : decode cL_act 330 = .ok (.iconst 3, 1) := by decide +kernel
theorem dL_act_331 : decode cL_act 331 = .ok (.imul, 1) := by decide +kernel
theorem dL_act_332 : decode cL_act 332 = .ok (.sipush 360, 3) := by decide +kernel
theorem dL_act_335 : decode cL_act 335 = .ok (.invokestatic 15, 3) := by decide +kernel
theorem dL_act_338 : decode cL_act 338 = .ok (.iastore, 1) := by decide +kernel
theorem dL_act_339 : decode cL_act 339 = .ok (.dup, 1) := by decide +kernel
theorem dL_act_340 : decode cL_act 340 = .ok (.iconst 1, 1) := by decide +kernel
theorem dL_act_341 : decode cL_act 341 = .ok (.iconst 1, 1) := by decide +kernel
theorem dL_act_342 : decode cL_act 342 = .ok (.iload_n 2, 1) := by decide +kernel
theorem dL_act_343 : decode cL_act 343 = .ok (.iconst 4, 1) := by decide +kernel
theorem dL_act_344 : decode cL_act 344 = .ok (.ishr, 1) := by decide +kernel
theorem dL_act_345 : decode cL_act 345 = .ok (.bipush 9, 2) := by decide +kernel
theorem dL_act_347 : decode cL_act 347 = .ok (.invokestatic 15, 3) := by decide +kernel
theorem dL_act_350 : decode cL_act 350 = .ok (.iadd, 1) := by decide +kernel
theorem dL_act_351 : decode cL_act 351 = .ok (.iastore, 1) := by decide +kernel
theorem dL_act_352 : decode cL_act 352 = .ok (.invokestatic 21, 3) := by decide +kernel
theorem dL_act_355 : decode cL_act 355 = .ok (.putfield 34, 3) := by decide +kernel
theorem dL_act_358 : decode cL_act 358 = .ok (.aload_n 0, 1) := by decide +kernel
theorem dL_act_359 : decode cL_act 359 = .ok (.iload_n 2, 1) := by decide +kernel
theorem dL_act_360 : decode cL_act 360 = .ok (.iconst 3, 1) := by decide +kernel
theorem dL_act_361 : decode cL_act 361 = .ok (.imul, 1) := by decide +kernel
theorem dL_act_362 : decode cL_act 362 = .ok (.sipush 360, 3) := by decide +kernel
theorem dL_act_365 : decode cL_act 365 = .ok (.invokestatic 15, 3) := by decide +kernel
theorem dL_act_368 : decode cL_act 368 = .ok (.iconst 1, 1) := by decide +kernel
theorem dL_act_369 : decode cL_act 369 = .ok (.iload_n 2, 1) := by decide +kernel
theorem dL_act_370 : decode cL_act 370 = .ok (.iconst 4, 1) := by decide +kernel
theorem dL_act_371 : decode cL_act 371 = .ok (.ishr, 1) := by decide +kernel
theorem dL_act_372 : decode cL_act 372 = .ok (.bipush 9, 2) := by decide +kernel
theorem dL_act_374 : decode cL_act 374 = .ok (.invokestatic 15, 3) := by decide +kernel
theorem dL_act_377 : decode cL_act 377 = .ok (.iadd, 1) := by decide +kernel
theorem dL_act_378 : decode cL_act 378 = .ok (.invokevirtual 37, 3) := by decide +kernel
theorem dL_act_381 : decode cL_act 381 = .ok (.aload_n 1, 1) := by decide +kernel
theorem dL_act_382 : decode cL_act 382 = .ok (.getfield 34, 3) := by decide +kernel
theorem dL_act_385 : decode cL_act 385 = .ok (.arraylength, 1) := by decide +kernel
theorem dL_act_386 : decode cL_act 386 = .ok (.iconst 1, 1) := by decide +kernel
theorem dL_act_387 : decode cL_act 387 = .ok (.isub, 1) := by decide +kernel
theorem dL_act_388 : decode cL_act 388 = .ok (.if_icmp .ne 7, 3) := by decide +kernel
theorem dL_act_391 : decode cL_act 391 = .ok (.iconst 1, 1) := by decide +kernel
theorem dL_act_392 : decode cL_act 392 = .ok (.goto 4, 3) := by decide +kernel
theorem dL_act_395 : decode cL_act 395 = .ok (.iconst 0, 1) := by decide +kernel
theorem dL_act_396 : decode cL_act 396 = .ok (.ireturn, 1) := by decide +kernel
theorem dL_act_397 : decode cL_act 397 = .ok (.aload_n 1, 1) := by decide +kernel
theorem dL_act_398 : decode cL_act 398 = .ok (.getfield 40, 3) := by decide +kernel
theorem dL_act_401 : decode cL_act 401 = .ok (.arraylength, 1) := by decide +kernel
theorem dL_act_402 : decode cL_act 402 = .ok (.bipush 24, 2) := by decide +kernel
theorem dL_act_404 : decode cL_act 404 = .ok (.if_icmp .ne 5, 3) := by decide +kernel
theorem dL_act_407 : decode cL_act 407 = .ok (.iconst 1, 1) := by decide +kernel
theorem dL_act_408 : decode cL_act 408 = .ok (.ireturn, 1) := by decide +kernel
theorem dL_act_409 : decode cL_act 409 = .ok (.aload_n 1, 1) := by decide +kernel
theorem dL_act_410 : decode cL_act 410 = .ok (.getfield 43, 3) := by decide +kernel
theorem dL_act_413 : decode cL_act 413 = .ok (.sipush 950, 3) := by decide +kernel
theorem dL_act_416 : decode cL_act 416 = .ok (.if_icmp .ge 19, 3) := by decide +kernel
theorem dL_act_419 : decode cL_act 419 = .ok (.aload_n 1, 1) := by decide +kernel
theorem dL_act_420 : decode cL_act 420 = .ok (.getfield 43, 3) := by decide +kernel
theorem dL_act_423 : decode cL_act 423 = .ok (.iload_n 2, 1) := by decide +kernel
theorem dL_act_424 : decode cL_act 424 = .ok (.iconst 2, 1) := by decide +kernel
theorem dL_act_425 : decode cL_act 425 = .ok (.ishr, 1) := by decide +kernel
theorem dL_act_426 : decode cL_act 426 = .ok (.bipush 40, 2) := by decide +kernel
theorem dL_act_428 : decode cL_act 428 = .ok (.invokestatic 15, 3) := by decide +kernel
theorem dL_act_431 : decode cL_act 431 = .ok (.iadd, 1) := by decide +kernel
theorem dL_act_432 : decode cL_act 432 = .ok (.goto 12, 3) := by decide +kernel
theorem dL_act_435 : decode cL_act 435 = .ok (.iload_n 2, 1) := by decide +kernel
theorem dL_act_436 : decode cL_act 436 = .ok (.iconst 2, 1) := by decide +kernel
theorem dL_act_437 : decode cL_act 437 = .ok (.ishr, 1) := by decide +kernel
theorem dL_act_438 : decode cL_act 438 = .ok (.sipush 1000, 3) := by decide +kernel
theorem dL_act_441 : decode cL_act 441 = .ok (.invokestatic 15, 3) := by decide +kernel
theorem dL_act_444 : decode cL_act 444 = .ok (.istore 9, 2) := by decide +kernel
theorem dL_act_446 : decode cL_act 446 = .ok (.iload_n 2, 1) := by decide +kernel
theorem dL_act_447 : decode cL_act 447 = .ok (.iconst 4, 1) := by decide +kernel
theorem dL_act_448 : decode cL_act 448 = .ok (.ishr, 1) := by decide +kernel
theorem dL_act_449 : decode cL_act 449 = .ok (.bipush 9, 2) := by decide +kernel
theorem dL_act_451 : decode cL_act 451 = .ok (.invokestatic 15, 3) := by decide +kernel
theorem dL_act_454 : decode cL_act 454 = .ok (.iconst 5, 1) := by decide +kernel
theorem dL_act_455 : decode cL_act 455 = .ok (.irem, 1) := by decide +kernel
theorem dL_act_456 : decode cL_act 456 = .ok (.istore 10, 2) := by decide +kernel
theorem dL_act_458 : decode cL_act 458 = .ok (.iload 10, 2) := by decide +kernel
theorem dL_act_460 : decode cL_act 460 = .ok (.ifCond .ne 8, 3) := by decide +kernel
theorem dL_act_463 : decode cL_act 463 = .ok (.iload 4, 2) := by decide +kernel
theorem dL_act_465 : decode cL_act 465 = .ok (.goto 37, 3) := by decide +kernel
theorem dL_act_468 : decode cL_act 468 = .ok (.iload 10, 2) := by decide +kernel
theorem dL_act_470 : decode cL_act 470 = .ok (.iconst 2, 1) := by decide +kernel
theorem dL_act_471 : decode cL_act 471 = .ok (.if_icmp .ne 15, 3) := by decide +kernel
theorem dL_act_474 : decode cL_act 474 = .ok (.iload_n 2, 1) := by decide +kernel
theorem dL_act_475 : decode cL_act 475 = .ok (.iconst 5, 1) := by decide +kernel
theorem dL_act_476 : decode cL_act 476 = .ok (.imul, 1) := by decide +kernel
theorem dL_act_477 : decode cL_act 477 = .ok (.sipush 360, 3) := by decide +kernel
theorem dL_act_480 : decode cL_act 480 = .ok (.invokestatic 15, 3) := by decide +kernel
theorem dL_act_483 : decode cL_act 483 = .ok (.goto 19, 3) := by decide +kernel
theorem dL_act_486 : decode cL_act 486 = .ok (.iload 10, 2) := by decide +kernel
theorem dL_act_488 : decode cL_act 488 = .ok (.iconst 3, 1) := by decide +kernel
theorem dL_act_489 : decode cL_act 489 = .ok (.if_icmp .ne 12, 3) := by decide +kernel
theorem dL_act_492 : decode cL_act 492 = .ok (.iload_n 2, 1) := by decide +kernel
theorem dL_act_493 : decode cL_act 493 = .ok (.bipush 100, 2) := by decide +kernel
theorem dL_act_495 : decode cL_act 495 = .ok (.invokestatic 15, 3) := by decide +kernel
theorem dL_act_498 : decode cL_act 498 = .ok (.goto 4, 3) := by decide +kernel
theorem dL_act_501 : decode cL_act 501 = .ok (.iconst 0, 1) := by decide +kernel
theorem dL_act_502 : decode cL_act 502 = .ok (.istore 11, 2) := by decide +kernel
theorem dL_act_504 : decode cL_act 504 = .ok (.iload 10, 2) := by decide +kernel
theorem dL_act_506 : decode cL_act 506 = .ok (.ifCond .ne 14, 3) := by decide +kernel
theorem dL_act_509 : decode cL_act 509 = .ok (.iload_n 2, 1) := by decide +kernel
theorem dL_act_510 : decode cL_act 510 = .ok (.iconst 1, 1) := by decide +kernel
theorem dL_act_511 : decode cL_act 511 = .ok (.ishr, 1) := by decide +kernel
theorem dL_act_512 : decode cL_act 512 = .ok (.bipush 101, 2) := by decide +kernel
theorem dL_act_514 : decode cL_act 514 = .ok (.invokestatic 15, 3) := by decide +kernel
theorem dL_act_517 : decode cL_act 517 = .ok (.goto 59, 3) := by decide +kernel
theorem dL_act_520 : decode cL_act 520 = .ok (.iload 10, 2) := by decide +kernel
theorem dL_act_522 : decode cL_act 522 = .ok (.iconst 1, 1) := by decide +kernel
theorem dL_act_523 : decode cL_act 523 = .ok (.if_icmp .ne 15, 3) := by decide +kernel
theorem dL_act_526 : decode cL_act 526 = .ok (.iload_n 2, 1) := by decide +kernel
theorem dL_act_527 : decode cL_act 527 = .ok (.bipush 61, 2) := by decide +kernel
theorem dL_act_529 : decode cL_act 529 = .ok (.invokestatic 15, 3) := by decide +kernel
theorem dL_act_532 : decode cL_act 532 = .ok (.bipush 30, 2) := by decide +kernel
theorem dL_act_534 : decode cL_act 534 = .ok (.isub, 1) := by decide +kernel
theorem dL_act_535 : decode cL_act 535 = .ok (.goto 41, 3) := by decide +kernel
theorem dL_act_538 : decode cL_act 538 = .ok (.iload 10, 2) := by decide +kernel
theorem dL_act_540 : decode cL_act 540 = .ok (.iconst 2, 1) := by decide +kernel
theorem dL_act_541 : decode cL_act 541 = .ok (.if_icmp .ne 15, 3) := by decide +kernel
theorem dL_act_544 : decode cL_act 544 = .ok (.iload_n 2, 1) := by decide +kernel
theorem dL_act_545 : decode cL_act 545 = .ok (.bipush 41, 2) := by decide +kernel
theorem dL_act_547 : decode cL_act 547 = .ok (.invokestatic 15, 3) := by decide +kernel
theorem dL_act_550 : decode cL_act 550 = .ok (.bipush 20, 2) := by decide +kernel
theorem dL_act_552 : decode cL_act 552 = .ok (.isub, 1) := by decide +kernel
theorem dL_act_553 : decode cL_act 553 = .ok (.goto 23, 3) := by decide +kernel
theorem dL_act_556 : decode cL_act 556 = .ok (.iload 10, 2) := by decide +kernel
theorem dL_act_558 : decode cL_act 558 = .ok (.iconst 3, 1) := by decide +kernel
theorem dL_act_559 : decode cL_act 559 = .ok (.if_icmp .ne 16, 3) := by decide +kernel
theorem dL_act_562 : decode cL_act 562 = .ok (.iconst 1, 1) := by decide +kernel
theorem dL_act_563 : decode cL_act 563 = .ok (.iload_n 2, 1) := by decide +kernel
theorem dL_act_564 : decode cL_act 564 = .ok (.iconst 3, 1) := by decide +kernel
theorem dL_act_565 : decode cL_act 565 = .ok (.ishr, 1) := by decide +kernel
theorem dL_act_566 : decode cL_act 566 = .ok (.bipush 60, 2) := by decide +kernel
theorem dL_act_568 : decode cL_act 568 = .ok (.invokestatic 15, 3) := by decide +kernel
theorem dL_act_571 : decode cL_act 571 = .ok (.iadd, 1) := by decide +kernel
theorem dL_act_572 : decode cL_act 572 = .ok (.goto 4, 3) := by decide +kernel
theorem dL_act_575 : decode cL_act 575 = .ok (.iconst 0, 1) := by decide +kernel
theorem dL_act_576 : decode cL_act 576 = .ok (.istore 12, 2) := by decide +kernel
theorem dL_act_578 : decode cL_act 578 = .ok (.aload_n 1, 1) := by decide +kernel
theorem dL_act_579 : decode cL_act 579 = .ok (.aload_n 1, 1) := by decide +kernel
theorem dL_act_580 : decode cL_act 580 = .ok (.getfield 40, 3) := by decide +kernel
theorem dL_act_583 : decode cL_act 583 = .ok (.iconst 4, 1) := by decide +kernel
theorem dL_act_584 : decode cL_act 584 = .ok (.newarray .int, 2) := by decide +kernel
theorem dL_act_586 : decode cL_act 586 = .ok (.dup, 1) := by decide +kernel
theorem dL_act_587 : decode cL_act 587 = .ok (.iconst 0, 1) := by decide +kernel
theorem dL_act_588 : decode cL_act 588 = .ok (.iload 9, 2) := by decide +kernel
theorem dL_act_590 : decode cL_act 590 = .ok (.iastore, 1) := by decide +kernel
theorem dL_act_591 : decode cL_act 591 = .ok (.dup, 1) := by decide +kernel
theorem dL_act_592 : decode cL_act 592 = .ok (.iconst 1, 1) := by decide +kernel
theorem dL_act_593 : decode cL_act 593 = .ok (.iload 10, 2) := by decide +kernel
theorem dL_act_595 : decode cL_act 595 = .ok (.iastore, 1) := by decide +kernel
theorem dL_act_596 : decode cL_act 596 = .ok (.dup, 1) := by decide +kernel
theorem dL_act_597 : decode cL_act 597 = .ok (.iconst 2, 1) := by decide +kernel
theorem dL_act_598 : decode cL_act 598 = .ok (.iload 11, 2) := by decide +kernel
theorem dL_act_600 : decode cL_act 600 = .ok (.iastore, 1) := by decide +kernel
theorem dL_act_601 : decode cL_act 601 = .ok (.dup, 1) := by decide +kernel
theorem dL_act_602 : decode cL_act 602 = .ok (.iconst 3, 1) := by decide +kernel
theorem dL_act_603 : decode cL_act 603 = .ok (.iload 12, 2) := by decide +kernel
theorem dL_act_605 : decode cL_act 605 = .ok (.iastore, 1) := by decide +kernel
theorem dL_act_606 : decode cL_act 606 = .ok (.invokestatic 21, 3) := by decide +kernel
theorem dL_act_609 : decode cL_act 609 = .ok (.putfield 40, 3) := by decide +kernel
theorem dL_act_612 : decode cL_act 612 = .ok (.aload_n 0, 1) := by decide +kernel
theorem dL_act_613 : decode cL_act 613 = .ok (.iload 9, 2) := by decide +kernel
theorem dL_act_615 : decode cL_act 615 = .ok (.iload 10, 2) := by decide +kernel
theorem dL_act_617 : decode cL_act 617 = .ok (.iload 11, 2) := by decide +kernel
theorem dL_act_619 : decode cL_act 619 = .ok (.iload 12, 2) := by decide +kernel
theorem dL_act_621 : decode cL_act 621 = .ok (.invokevirtual 47, 3) := by decide +kernel
theorem dL_act_624 : decode cL_act 624 = .ok (.aload_n 1, 1) := by decide +kernel
theorem dL_act_625 : decode cL_act 625 = .ok (.getfield 40, 3) := by decide +kernel
theorem dL_act_628 : decode cL_act 628 = .ok (.arraylength, 1) := by decide +kernel
theorem dL_act_629 : decode cL_act 629 = .ok (.iconst 1, 1) := by decide +kernel
theorem dL_act_630 : decode cL_act 630 = .ok (.isub, 1) := by decide +kernel
theorem dL_act_631 : decode cL_act 631 = .ok (.if_icmp .ne 7, 3) := by decide +kernel
theorem dL_act_634 : decode cL_act 634 = .ok (.iconst 1, 1) := by decide +kernel
theorem dL_act_635 : decode cL_act 635 = .ok (.goto 4, 3) := by decide +kernel
theorem dL_act_638 : decode cL_act 638 = .ok (.iconst 0, 1) := by decide +kernel
theorem dL_act_639 : decode cL_act 639 = .ok (.ireturn, 1) := by decide +kernel
theorem dL_act_640 : decode cL_act 640 = .ok (.aload_n 1, 1) := by decide +kernel
theorem dL_act_641 : decode cL_act 641 = .ok (.aload_n 1, 1) := by decide +kernel
theorem dL_act_642 : decode cL_act 642 = .ok (.getfield 51, 3) := by decide +kernel
theorem dL_act_645 : decode cL_act 645 = .ok (.ifCond .ne 7, 3) := by decide +kernel
theorem dL_act_648 : decode cL_act 648 = .ok (.iconst 1, 1) := by decide +kernel
theorem dL_act_649 : decode cL_act 649 = .ok (.goto 4, 3) := by decide +kernel
theorem dL_act_652 : decode cL_act 652 = .ok (.iconst 0, 1) := by decide +kernel
theorem dL_act_653 : decode cL_act 653 = .ok (.putfield 51, 3) := by decide +kernel
theorem dL_act_656 : decode cL_act 656 = .ok (.aload_n 0, 1) := by decide +kernel
theorem dL_act_657 : decode cL_act 657 = .ok (.invokevirtual 55, 3) := by decide +kernel
theorem dL_act_660 : decode cL_act 660 = .ok (.aload_n 1, 1) := by decide +kernel
theorem dL_act_661 : decode cL_act 661 = .ok (.getfield 51, 3) := by decide +kernel
theorem dL_act_664 : decode cL_act 664 = .ok (.if_icmp .ne 7, 3) := by decide +kernel
theorem dL_act_667 : decode cL_act 667 = .ok (.iconst 1, 1) := by decide +kernel
theorem dL_act_668 : decode cL_act 668 = .ok (.goto 4, 3) := by decide +kernel
theorem dL_act_671 : decode cL_act 671 = .ok (.iconst 0, 1) := by decide +kernel
theorem dL_act_672 : decode cL_act 672 = .ok (.ireturn, 1) := by decide +kernel
theorem dL_act_673 : decode cL_act 673 = .ok (.aload_n 1, 1) := by decide +kernel
theorem dL_act_674 : decode cL_act 674 = .ok (.getfield 43, 3) := by decide +kernel
theorem dL_act_677 : decode cL_act 677 = .ok (.istore 13, 2) := by decide +kernel
theorem dL_act_679 : decode cL_act 679 = .ok (.aload_n 1, 1) := by decide +kernel
theorem dL_act_680 : decode cL_act 680 = .ok (.iload_n 2, 1) := by decide +kernel
theorem dL_act_681 : decode cL_act 681 = .ok (.iconst 5, 1) := by decide +kernel
theorem dL_act_682 : decode cL_act 682 = .ok (.ishr, 1) := by decide +kernel
theorem dL_act_683 : decode cL_act 683 = .ok (.iconst 3, 1) := by decide +kernel
theorem dL_act_684 : decode cL_act 684 = .ok (.invokestatic 15, 3) := by decide +kernel
theorem dL_act_687 : decode cL_act 687 = .ok (.ifCond .ne 15, 3) := by decide +kernel
theorem dL_act_690 : decode cL_act 690 = .ok (.iload_n 2, 1) := by decide +kernel
theorem dL_act_691 : decode cL_act 691 = .ok (.iconst 3, 1) := by decide +kernel
theorem dL_act_692 : decode cL_act 692 = .ok (.imul, 1) := by decide +kernel
theorem dL_act_693 : decode cL_act 693 = .ok (.sipush 1001, 3) := by decide +kernel
theorem dL_act_696 : decode cL_act 696 = .ok (.invokestatic 15, 3) := by decide +kernel
theorem dL_act_699 : decode cL_act 699 = .ok (.goto 11, 3) := by decide +kernel
theorem dL_act_702 : decode cL_act 702 = .ok (.iload_n 2, 1) := by decide +kernel
theorem dL_act_703 : decode cL_act 703 = .ok (.iconst 3, 1) := by decide +kernel
theorem dL_act_704 : decode cL_act 704 = .ok (.ishr, 1) := by decide +kernel
theorem dL_act_705 : decode cL_act 705 = .ok (.bipush 60, 2) := by decide +kernel
theorem dL_act_707 : decode cL_act 707 = .ok (.invokestatic 15, 3) := by decide +kernel
theorem dL_act_710 : decode cL_act 710 = .ok (.putfield 43, 3) := by decide +kernel
theorem dL_act_713 : decode cL_act 713 = .ok (.aload_n 0, 1) := by decide +kernel
theorem dL_act_714 : decode cL_act 714 = .ok (.aload_n 1, 1) := by decide +kernel
theorem dL_act_715 : decode cL_act 715 = .ok (.getfield 43, 3) := by decide +kernel
theorem dL_act_718 : decode cL_act 718 = .ok (.invokevirtual 59, 3) := by decide +kernel
theorem dL_act_721 : decode cL_act 721 = .ok (.iload 13, 2) := by decide +kernel
theorem dL_act_723 : decode cL_act 723 = .ok (.if_icmp .ne 7, 3) := by decide +kernel
theorem dL_act_726 : decode cL_act 726 = .ok (.iconst 1, 1) := by decide +kernel
theorem dL_act_727 : decode cL_act 727 = .ok (.goto 4, 3) := by decide +kernel
theorem dL_act_730 : decode cL_act 730 = .ok (.iconst 0, 1) := by decide +kernel
theorem dL_act_731 : decode cL_act 731 = .ok (.ireturn, 1) := by decide +kernel
theorem dL_act_732 : decode cL_act 732 = .ok (.aload_n 1, 1) := by decide +kernel
theorem dL_act_733 : decode cL_act 733 = .ok (.getfield 9, 3) := by decide +kernel
theorem dL_act_736 : decode cL_act 736 = .ok (.iload 4, 2) := by decide +kernel
theorem dL_act_738 : decode cL_act 738 = .ok (.aaload, 1) := by decide +kernel
theorem dL_act_739 : decode cL_act 739 = .ok (.iconst 2, 1) := by decide +kernel
theorem dL_act_740 : decode cL_act 740 = .ok (.iaload, 1) := by decide +kernel
theorem dL_act_741 : decode cL_act 741 = .ok (.istore 14, 2) := by decide +kernel
theorem dL_act_743 : decode cL_act 743 = .ok (.aload_n 1, 1) := by decide +kernel
theorem dL_act_744 : decode cL_act 744 = .ok (.getfield 9, 3) := by decide +kernel
theorem dL_act_747 : decode cL_act 747 = .ok (.iload 4, 2) := by decide +kernel
theorem dL_act_749 : decode cL_act 749 = .ok (.aaload, 1) := by decide +kernel
theorem dL_act_750 : decode cL_act 750 = .ok (.iconst 2, 1) := by decide +kernel
theorem dL_act_751 : decode cL_act 751 = .ok (.iload_n 2, 1) := by decide +kernel
theorem dL_act_752 : decode cL_act 752 = .ok (.iconst 2, 1) := by decide +kernel
theorem dL_act_753 : decode cL_act 753 = .ok (.ishr, 1) := by decide +kernel
theorem dL_act_754 : decode cL_act 754 = .ok (.bipush 101, 2) := by decide +kernel
theorem dL_act_756 : decode cL_act 756 = .ok (.invokestatic 15, 3) := by decide +kernel
theorem dL_act_759 : decode cL_act 759 = .ok (.iastore, 1) := by decide +kernel
theorem dL_act_760 : decode cL_act 760 = .ok (.aload_n 0, 1) := by decide +kernel
theorem dL_act_761 : decode cL_act 761 = .ok (.iload 4, 2) := by decide +kernel
theorem dL_act_763 : decode cL_act 763 = .ok (.aload_n 1, 1) := by decide +kernel
theorem dL_act_764 : decode cL_act 764 = .ok (.getfield 9, 3) := by decide +kernel
theorem dL_act_767 : decode cL_act 767 = .ok (.iload 4, 2) := by decide +kernel
theorem dL_act_769 : decode cL_act 769 = .ok (.aaload, 1) := by decide +kernel
theorem dL_act_770 : decode cL_act 770 = .ok (.iconst 2, 1) := by decide +kernel
theorem dL_act_771 : decode cL_act 771 = .ok (.iaload, 1) := by decide +kernel
theorem dL_act_772 : decode cL_act 772 = .ok (.invokevirtual 63, 3) := by decide +kernel
theorem dL_act_775 : decode cL_act 775 = .ok (.iload 14, 2) := by decide +kernel
theorem dL_act_777 : decode cL_act 777 = .ok (.if_icmp .ne 7, 3) := by decide +kernel
theorem dL_act_780 : decode cL_act 780 = .ok (.iconst 1, 1) := by decide +kernel
theorem dL_act_781 : decode cL_act 781 = .ok (.goto 4, 3) := by decide +kernel
theorem dL_act_784 : decode cL_act 784 = .ok (.iconst 0, 1) := by decide +kernel
theorem dL_act_785 : decode cL_act 785 = .ok (.ireturn, 1) := by decide +kernel
set_option maxRecDepth 20000 in
theorem ggL_build_X6_init_t : GoodIn wsL_build1 wsX6_init := goodIn_r _ [5, 6, 7, 8, 9, 10, 11, 12, 13, 14, 133, 134, 135, 136, 137, 138, 139, 140, 141, 142, 143] (by decide +kernel) (by decide +kernel)
theorem ggL_build_X6_init : GoodIn wsL_build wsX6_init := goodIn_up_L_build ggL_build_X6_init_t
set_option maxRecDepth 20000 in
theorem gL_build_X6_init_n66 : GoodIn wsL_build (wsX6_init) := ggL_build_X6_init
set_option maxRecDepth 20000 in
theorem ggL_build_L_cell_t : GoodIn wsL_build1 wsL_cell := goodIn_r _ [18, 19] (by decide +kernel) (by decide +kernel)
theorem ggL_build_L_cell : GoodIn wsL_build wsL_cell := goodIn_up_L_build ggL_build_L_cell_t
set_option maxRecDepth 20000 in
theorem gL_build_L_cell : GoodIn wsL_build (va_wsS RL 67 yL_cell wsL_cell) := goodIn_app (goodIn_of _ (by decide +kernel)) ggL_build_L_cell
set_option maxRecDepth 20000 in
theorem ggL_build_L_act_t : GoodIn wsL_build1 (wsL_act).tail := goodIn_app (goodIn_app (goodIn_app (goodIn_r _ [23, 24, 25, 26, 27, 28, 29, 30, 17, 31, 32, 33, 34, 3, 35, 9, 36, 37, 38, 39, 40, 41, 42, 43, 44, 45, 46, 47, 48, 49, 50, 51, 52, 53, 54, 55, 56, 57, 58, 59, 60, 61, 62, 63, 64, 65, 66, 67, 68, 69, 70, 71, 72, 73, 74, 75, 76, 77, 78, 79, 80, 81, 82, 83, 84, 85, 86, 87, 88, 89, 90, 91, 92, 93, 94, 95, 96, 97, 98, 99, 100, 101, 102, 103, 104, 105, 106, 107, 108, 109, 110, 111, 112, 113, 114, 115, 116, 117, 118, 119, 120, 121, 122, 123, 124, 125, 126, 127, 128, 129, 130, 131, 132, 133, 134, 135, 136, 137, 138, 139, 140, 141, 142, 143, 144, 145, 146, 147, 148, 149, 150, 151, 152, 153, 154, 155, 156, 157, 158, 159, 160, 161, 162, 163, 164, 165, 166, 167, 168, 169, 170] (by decide +kernel) (by decide +kernel)) (goodIn_sub (fun _ h => List.mem_cons_of_mem _ (List.mem_append_left _ (List.mem_append_left _ (List.mem_append_right _ h)))) (by decide +kernel))) (goodIn_sub (fun _ h => List.mem_cons_of_mem _ (List.mem_append_left _ (List.mem_append_right _ h))) (by decide +kernel))) (goodIn_sub (fun _ h => List.mem_cons_of_mem _ (List.mem_append_right _ h)) (by decide +kernel))
theorem ggL_build_L_act : GoodIn wsL_build wsL_act := goodIn_hd bigA_build rfl (goodIn_up_L_build ggL_build_L_act_t)
set_option maxRecDepth 20000 in
theorem gL_build_L_act : GoodIn wsL_build (va_wsS RL 71 yL_act wsL_act) := goodIn_app (goodIn_of _ (by decide +kernel)) ggL_build_L_act
theorem dL_build_0 : decode cL_build 0 = .ok (.new 10, 3) := by decide +kernel
theorem dL_build_3 : decode cL_build 3 = .ok (.dup, 1) := by decide +kernel
theorem dL_build_4 : decode cL_build 4 = .ok (.invokespecial 66, 3) := by decide +kernel
theorem dL_build_7 : decode cL_build 7 = .ok (.astore_n 2, 1) := by decide +kernel
theorem dL_build_8 : decode cL_build 8 = .ok (.iconst 0, 1) := by decide +kernel
theorem dL_build_9 : decode cL_build 9 = .ok (.istore_n 3, 1) := by decide +kernel
theorem dL_build_10 : decode cL_build 10 = .ok (.iload_n 3, 1) := by decide +kernel
theorem dL_build_11 : decode cL_build 11 = .ok (.bipush 32, 2) := by decide +kernel
theorem dL_build_13 : decode cL_build 13 = .ok (.if_icmp .ge 60, 3) := by decide +kernel
theorem dL_build_16 : decode cL_build 16 = .ok (.aload_n 0, 1) := by decide +kernel
theorem dL_build_17 : decode cL_build 17 = .ok (.aload_n 2, 1) := by decide +kernel
theorem dL_build_18 : decode cL_build 18 = .ok (.aload_n 1, 1) := by decide +kernel
theorem dL_build_19 : decode cL_build 19 = .ok (.iload_n 3, 1) := by decide +kernel
theorem dL_build_20 : decode cL_build 20 = .ok (.bipush 16, 2) := by decide +kernel
theorem dL_build_22 : decode cL_build 22 = .ok (.irem, 1) := by decide +kernel
theorem dL_build_23 : decode cL_build 23 = .ok (.invokestatic 67, 3) := by decide +kernel
theorem dL_build_26 : decode cL_build 26 = .ok (.iload_n 3, 1) := by decide +kernel
theorem dL_build_27 : decode cL_build 27 = .ok (.bipush 16, 2) := by decide +kernel
theorem dL_build_29 : decode cL_build 29 = .ok (.idiv, 1) := by decide +kernel
theorem dL_build_30 : decode cL_build 30 = .ok (.iconst 4, 1) := by decide +kernel
theorem dL_build_31 : decode cL_build 31 = .ok (.imul, 1) := by decide +kernel
theorem dL_build_32 : decode cL_build 32 = .ok (.ishr, 1) := by decide +kernel
theorem dL_build_33 : decode cL_build 33 = .ok (.sipush 179, 3) := by decide +kernel
theorem dL_build_36 : decode cL_build 36 = .ok (.iload_n 3, 1) := by decide +kernel
theorem dL_build_37 : decode cL_build 37 = .ok (.imul, 1) := by decide +kernel
theorem dL_build_38 : decode cL_build 38 = .ok (.iadd, 1) := by decide +kernel
theorem dL_build_39 : decode cL_build 39 = .ok (.iload_n 3, 1) := by decide +kernel
theorem dL_build_40 : decode cL_build 40 = .ok (.bipush 9, 2) := by decide +kernel
theorem dL_build_42 : decode cL_build 42 = .ok (.if_icmp .ge 15, 3) := by decide +kernel
theorem dL_build_45 : decode cL_build 45 = .ok (.sipush 1024, 3) := by decide +kernel
theorem dL_build_48 : decode cL_build 48 = .ok (.iload_n 3, 1) := by decide +kernel
theorem dL_build_49 : decode cL_build 49 = .ok (.iconst 3, 1) := by decide +kernel
theorem dL_build_50 : decode cL_build 50 = .ok (.irem, 1) := by decide +kernel
theorem dL_build_51 : decode cL_build 51 = .ok (.imul, 1) := by decide +kernel
theorem dL_build_52 : decode cL_build 52 = .ok (.iconst 2, 1) := by decide +kernel
theorem dL_build_53 : decode cL_build 53 = .ok (.imul, 1) := by decide +kernel
theorem dL_build_54 : decode cL_build 54 = .ok (.goto 4, 3) := by decide +kernel
theorem dL_build_57 : decode cL_build 57 = .ok (.iconst 0, 1) := by decide +kernel
theorem dL_build_58 : decode cL_build 58 = .ok (.iadd, 1) := by decide +kernel
theorem dL_build_59 : decode cL_build 59 = .ok (.invokestatic 71, 3) := by decide +kernel
theorem dL_build_62 : decode cL_build 62 = .ok (.ifCond .ne 5, 3) := by decide +kernel
theorem dL_build_65 : decode cL_build 65 = .ok (.aconst_null, 1) := by decide +kernel
theorem dL_build_66 : decode cL_build 66 = .ok (.areturn, 1) := by decide +kernel
theorem dL_build_67 : decode cL_build 67 = .ok (.iinc 3 1, 3) := by decide +kernel
theorem dL_build_70 : decode cL_build 70 = .ok (.goto (-60), 3) := by decide +kernel
theorem dL_build_73 : decode cL_build 73 = .ok (.aload_n 2, 1) := by decide +kernel
theorem dL_build_74 : decode cL_build 74 = .ok (.areturn, 1) := by decide +kernel
