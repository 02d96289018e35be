/-! where the words stand in wsL_law, by program -/
set_option maxRecDepth 20000 in
theorem wl_RL_98 : Cond.methodLink RL 98 yX6_init ∈ wsL_law := List.mem_of_getElem? (i := 8) rfl
set_option maxRecDepth 20000 in
theorem wl_RX6_1 : Cond.methodLink RX6 1 objectInit ∈ wsL_law := List.mem_of_getElem? (i := 11) rfl
set_option maxRecDepth 20000 in
theorem wl_RX4_3 : Cond.methodLink RX4 3 objectInit ∈ wsL_law := List.mem_of_getElem? (i := 46) rfl
set_option maxRecDepth 20000 in
theorem wl_RX3_3 : Cond.methodLink RX3 3 objectInit ∈ wsL_law := List.mem_of_getElem? (i := 53) rfl
set_option maxRecDepth 20000 in
theorem wl_RX5_3 : Cond.methodLink RX5 3 objectInit ∈ wsL_law := List.mem_of_getElem? (i := 60) rfl
set_option maxRecDepth 20000 in
theorem wl_RX1_3 : Cond.methodLink RX1 3 objectInit ∈ wsL_law := List.mem_of_getElem? (i := 67) rfl
set_option maxRecDepth 20000 in
theorem wl_RX2_3 : Cond.methodLink RX2 3 objectInit ∈ wsL_law := List.mem_of_getElem? (i := 74) rfl
set_option maxRecDepth 20000 in
theorem wl_RX0_1 : Cond.methodLink RX0 1 objectInit ∈ wsL_law := List.mem_of_getElem? (i := 83) rfl
set_option maxRecDepth 20000 in
theorem wl_RL_101 : Cond.methodLink RL 101 yX7_init ∈ wsL_law := List.mem_of_getElem? (i := 84) rfl
set_option maxRecDepth 20000 in
theorem wl_RX7_1 : Cond.methodLink RX7 1 objectInit ∈ wsL_law := List.mem_of_getElem? (i := 87) rfl
set_option maxRecDepth 20000 in
theorem wl_RL_102 : Cond.methodLink RL 102 yL_addStep ∈ wsL_law := List.mem_of_getElem? (i := 121) rfl
set_option maxRecDepth 20000 in
theorem wl_RL_7 : Cond.methodLink RL 7 yX6_addStep ∈ wsL_law := List.mem_of_getElem? (i := 127) rfl
set_option maxRecDepth 20000 in
theorem wl_RX6_71 : Cond.methodLink RX6 71 yX4_isStep ∈ wsL_law := List.mem_of_getElem? (i := 135) rfl
set_option maxRecDepth 20000 in
theorem wl_RX6_82 : Cond.methodLink RX6 82 yX4_isFull ∈ wsL_law := List.mem_of_getElem? (i := 140) rfl
set_option maxRecDepth 20000 in
theorem wl_RX6_91 : Cond.methodLink RX6 91 yX4_append ∈ wsL_law := List.mem_of_getElem? (i := 145) rfl
set_option maxRecDepth 20000 in
theorem wl_RX6_95 : Cond.methodLink RX6 95 yX4_size ∈ wsL_law := List.mem_of_getElem? (i := 149) rfl
set_option maxRecDepth 20000 in
theorem wl_RL_107 : Cond.methodLink RL 107 yX7_addStep ∈ wsL_law := List.mem_of_getElem? (i := 153) rfl
set_option maxRecDepth 20000 in
theorem wl_RX7_128 : Cond.methodLink RX7 128 yX7_isKind ∈ wsL_law := List.mem_of_getElem? (i := 157) rfl
set_option maxRecDepth 20000 in
theorem wl_RX7_132 : Cond.methodLink RX7 132 yX7_isNumber ∈ wsL_law := List.mem_of_getElem? (i := 160) rfl
set_option maxRecDepth 20000 in
theorem wl_RX7_113 : Cond.methodLink RX7 113 yX7_in ∈ wsL_law := List.mem_of_getElem? (i := 163) rfl
set_option maxRecDepth 20000 in
theorem wl_RL_108 : Cond.methodLink RL 108 yX7_thrown ∈ wsL_law := List.mem_of_getElem? (i := 166) rfl
set_option maxRecDepth 20000 in
theorem wl_RL_111 : Cond.methodLink RL 111 yL_start ∈ wsL_law := List.mem_of_getElem? (i := 170) rfl
set_option maxRecDepth 20000 in
theorem wl_RL_17 : Cond.methodLink RL 17 yX6_start ∈ wsL_law := List.mem_of_getElem? (i := 173) rfl
set_option maxRecDepth 20000 in
theorem wl_RX6_101 : Cond.methodLink RX6 101 yX3_count ∈ wsL_law := List.mem_of_getElem? (i := 177) rfl
set_option maxRecDepth 20000 in
theorem wl_RL_114 : Cond.methodLink RL 114 yX7_start ∈ wsL_law := List.mem_of_getElem? (i := 181) rfl
set_option maxRecDepth 20000 in
theorem wl_RX7_158 : Cond.methodLink RX7 158 yX7_checked ∈ wsL_law := List.mem_of_getElem? (i := 185) rfl
set_option maxRecDepth 20000 in
theorem wl_RX7_162 : Cond.methodLink RX7 162 yX7_manyRows ∈ wsL_law := List.mem_of_getElem? (i := 189) rfl
set_option maxRecDepth 20000 in
theorem wl_RL_115 : Cond.methodLink RL 115 yX6_phase ∈ wsL_law := List.mem_of_getElem? (i := 193) rfl
set_option maxRecDepth 20000 in
theorem wl_RL_119 : Cond.methodLink RL 119 yX7_phase ∈ wsL_law := List.mem_of_getElem? (i := 197) rfl
set_option maxRecDepth 20000 in
theorem wl_RL_120 : Cond.methodLink RL 120 yL_goToBoth ∈ wsL_law := List.mem_of_getElem? (i := 201) rfl
set_option maxRecDepth 20000 in
theorem wl_RL_21 : Cond.methodLink RL 21 yX6_goToBoth ∈ wsL_law := List.mem_of_getElem? (i := 205) rfl
set_option maxRecDepth 20000 in
theorem wl_RX6_106 : Cond.methodLink RX6 106 yX2_keysLeft ∈ wsL_law := List.mem_of_getElem? (i := 211) rfl
set_option maxRecDepth 20000 in
theorem wl_RX6_109 : Cond.methodLink RX6 109 yX2_waiting ∈ wsL_law := List.mem_of_getElem? (i := 216) rfl
set_option maxRecDepth 20000 in
theorem wl_RX6_117 : Cond.methodLink RX6 117 yX6_followUpTo ∈ wsL_law := List.mem_of_getElem? (i := 221) rfl
set_option maxRecDepth 20000 in
theorem wl_RX6_316 : Cond.methodLink RX6 316 Lib.Math.min.name ∈ wsL_law := List.mem_of_getElem? (i := 225) rfl
set_option maxRecDepth 20000 in
theorem wl_RX6_142 : Cond.methodLink RX6 142 yX1_size ∈ wsL_law := List.mem_of_getElem? (i := 229) rfl
set_option maxRecDepth 20000 in
theorem wl_RX6_183 : Cond.methodLink RX6 183 yX6_followNext ∈ wsL_law := List.mem_of_getElem? (i := 234) rfl
set_option maxRecDepth 20000 in
theorem wl_RX6_143 : Cond.methodLink RX6 143 yX1_key ∈ wsL_law := List.mem_of_getElem? (i := 238) rfl
set_option maxRecDepth 20000 in
theorem wl_RX1_33 : Cond.methodLink RX1 33 yX1_isIndex ∈ wsL_law := List.mem_of_getElem? (i := 242) rfl
set_option maxRecDepth 20000 in
theorem wl_RX6_322 : Cond.methodLink RX6 322 yX1_isDeletion ∈ wsL_law := List.mem_of_getElem? (i := 245) rfl
set_option maxRecDepth 20000 in
theorem wl_RX6_325 : Cond.methodLink RX6 325 yX1_number ∈ wsL_law := List.mem_of_getElem? (i := 249) rfl
set_option maxRecDepth 20000 in
theorem wl_RX6_245 : Cond.methodLink RX6 245 yX6_putRowDown ∈ wsL_law := List.mem_of_getElem? (i := 253) rfl
set_option maxRecDepth 20000 in
theorem wl_RX6_326 : Cond.methodLink RX6 326 yX5_givesWay ∈ wsL_law := List.mem_of_getElem? (i := 257) rfl
set_option maxRecDepth 20000 in
theorem wl_RX5_28 : Cond.methodLink RX5 28 yX5_isStamped ∈ wsL_law := List.mem_of_getElem? (i := 261) rfl
set_option maxRecDepth 20000 in
theorem wl_RX5_31 : Cond.methodLink RX5 31 yX5_stampOf ∈ wsL_law := List.mem_of_getElem? (i := 267) rfl
set_option maxRecDepth 20000 in
theorem wl_RX6_329 : Cond.methodLink RX6 329 yX0_set ∈ wsL_law := List.mem_of_getElem? (i := 271) rfl
set_option maxRecDepth 20000 in
theorem wl_RX6_332 : Cond.methodLink RX6 332 yX4_turn ∈ wsL_law := List.mem_of_getElem? (i := 277) rfl
set_option maxRecDepth 20000 in
theorem wl_RX4_27 : Cond.methodLink RX4 27 yX0_step ∈ wsL_law := List.mem_of_getElem? (i := 282) rfl
set_option maxRecDepth 20000 in
theorem wl_RX4_34 : Cond.methodLink RX4 34 yX0_areBothWithin ∈ wsL_law := List.mem_of_getElem? (i := 286) rfl
set_option maxRecDepth 20000 in
theorem wl_RX6_274 : Cond.methodLink RX6 274 yX0_number ∈ wsL_law := List.mem_of_getElem? (i := 290) rfl
set_option maxRecDepth 20000 in
theorem wl_RX6_172 : Cond.methodLink RX6 172 yX5_putEntry ∈ wsL_law := List.mem_of_getElem? (i := 294) rfl
set_option maxRecDepth 20000 in
theorem wl_RX6_336 : Cond.methodLink RX6 336 yX5_putAside ∈ wsL_law := List.mem_of_getElem? (i := 298) rfl
set_option maxRecDepth 20000 in
theorem wl_RX5_38 : Cond.methodLink RX5 38 yX5_put ∈ wsL_law := List.mem_of_getElem? (i := 302) rfl
set_option maxRecDepth 20000 in
theorem wl_RX6_194 : Cond.methodLink RX6 194 yX5_putTrace ∈ wsL_law := List.mem_of_getElem? (i := 306) rfl
set_option maxRecDepth 20000 in
theorem wl_RL_122 : Cond.methodLink RL 122 yX7_goToBoth ∈ wsL_law := List.mem_of_getElem? (i := 310) rfl
set_option maxRecDepth 20000 in
theorem wl_RX7_155 : Cond.methodLink RX7 155 yX7_followsOne ∈ wsL_law := List.mem_of_getElem? (i := 314) rfl
set_option maxRecDepth 20000 in
theorem wl_RX7_147 : Cond.methodLink RX7 147 yX7_takesAway ∈ wsL_law := List.mem_of_getElem? (i := 318) rfl
set_option maxRecDepth 20000 in
theorem wl_RX7_136 : Cond.methodLink RX7 136 yX7_isLater ∈ wsL_law := List.mem_of_getElem? (i := 322) rfl
set_option maxRecDepth 20000 in
theorem wl_RX7_143 : Cond.methodLink RX7 143 yX7_holds ∈ wsL_law := List.mem_of_getElem? (i := 326) rfl
set_option maxRecDepth 20000 in
theorem wl_RX7_151 : Cond.methodLink RX7 151 yX7_puts ∈ wsL_law := List.mem_of_getElem? (i := 330) rfl
set_option maxRecDepth 20000 in
theorem wl_RX7_140 : Cond.methodLink RX7 140 yX7_turns ∈ wsL_law := List.mem_of_getElem? (i := 334) rfl
set_option maxRecDepth 20000 in
theorem wl_RX7_120 : Cond.methodLink RX7 120 yX7_steps ∈ wsL_law := List.mem_of_getElem? (i := 339) rfl
set_option maxRecDepth 20000 in
theorem wl_RX7_117 : Cond.methodLink RX7 117 yX7_exchanges ∈ wsL_law := List.mem_of_getElem? (i := 343) rfl
set_option maxRecDepth 20000 in
theorem wl_RX7_124 : Cond.methodLink RX7 124 yX7_areWithin ∈ wsL_law := List.mem_of_getElem? (i := 347) rfl
set_option maxRecDepth 20000 in
theorem wl_RL_123 : Cond.methodLink RL 123 yL_switchOver ∈ wsL_law := List.mem_of_getElem? (i := 351) rfl
set_option maxRecDepth 20000 in
theorem wl_RL_26 : Cond.methodLink RL 26 yX6_switchOver ∈ wsL_law := List.mem_of_getElem? (i := 354) rfl
set_option maxRecDepth 20000 in
theorem wl_RX6_123 : Cond.methodLink RX6 123 yX5_isAnyAside ∈ wsL_law := List.mem_of_getElem? (i := 358) rfl
set_option maxRecDepth 20000 in
theorem wl_RX5_35 : Cond.methodLink RX5 35 yX5_count ∈ wsL_law := List.mem_of_getElem? (i := 362) rfl
set_option maxRecDepth 20000 in
theorem wl_RX6_126 : Cond.methodLink RX6 126 yX6_areSumsSame ∈ wsL_law := List.mem_of_getElem? (i := 366) rfl
set_option maxRecDepth 20000 in
theorem wl_RX6_290 : Cond.methodLink RX6 290 yX6_sumOfRange ∈ wsL_law := List.mem_of_getElem? (i := 370) rfl
set_option maxRecDepth 20000 in
theorem wl_RX6_352 : Cond.methodLink RX6 352 yX6_sumOfEntry ∈ wsL_law := List.mem_of_getElem? (i := 374) rfl
set_option maxRecDepth 20000 in
theorem wl_RX6_277 : Cond.methodLink RX6 277 yX5_hasEntry ∈ wsL_law := List.mem_of_getElem? (i := 378) rfl
set_option maxRecDepth 20000 in
theorem wl_RX6_209 : Cond.methodLink RX6 209 yX5_number ∈ wsL_law := List.mem_of_getElem? (i := 382) rfl
set_option maxRecDepth 20000 in
theorem wl_RX6_359 : Cond.methodLink RX6 359 yX6_sumOfKey ∈ wsL_law := List.mem_of_getElem? (i := 386) rfl
set_option maxRecDepth 20000 in
theorem wl_RX6_356 : Cond.methodLink RX6 356 yX6_sumOfRow ∈ wsL_law := List.mem_of_getElem? (i := 391) rfl
set_option maxRecDepth 20000 in
theorem wl_RX6_269 : Cond.methodLink RX6 269 yX6_turnRow ∈ wsL_law := List.mem_of_getElem? (i := 395) rfl
set_option maxRecDepth 20000 in
theorem wl_RX6_264 : Cond.methodLink RX6 264 yX3_has ∈ wsL_law := List.mem_of_getElem? (i := 399) rfl
set_option maxRecDepth 20000 in
theorem wl_RX6_213 : Cond.methodLink RX6 213 yX3_number ∈ wsL_law := List.mem_of_getElem? (i := 403) rfl
set_option maxRecDepth 20000 in
theorem wl_RX6_132 : Cond.methodLink RX6 132 yX5_countEntries ∈ wsL_law := List.mem_of_getElem? (i := 407) rfl
set_option maxRecDepth 20000 in
theorem wl_RL_125 : Cond.methodLink RL 125 yX7_switchOver ∈ wsL_law := List.mem_of_getElem? (i := 411) rfl
set_option maxRecDepth 20000 in
theorem wl_RX7_166 : Cond.methodLink RX7 166 yX7_manyHeld ∈ wsL_law := List.mem_of_getElem? (i := 415) rfl
set_option maxRecDepth 20000 in
theorem wl_RX7_170 : Cond.methodLink RX7 170 yX7_sumOf ∈ wsL_law := List.mem_of_getElem? (i := 419) rfl
set_option maxRecDepth 20000 in
theorem wl_RL_126 : Cond.methodLink RL 126 yL_goBack ∈ wsL_law := List.mem_of_getElem? (i := 425) rfl
set_option maxRecDepth 20000 in
theorem wl_RL_29 : Cond.methodLink RL 29 yX6_goBack ∈ wsL_law := List.mem_of_getElem? (i := 428) rfl
set_option maxRecDepth 20000 in
theorem wl_RX6_137 : Cond.methodLink RX6 137 yX6_canComeBack ∈ wsL_law := List.mem_of_getElem? (i := 432) rfl
set_option maxRecDepth 20000 in
theorem wl_RX6_282 : Cond.methodLink RX6 282 yX6_turnEntryBack ∈ wsL_law := List.mem_of_getElem? (i := 436) rfl
set_option maxRecDepth 20000 in
theorem wl_RX6_339 : Cond.methodLink RX6 339 yX4_turnBack ∈ wsL_law := List.mem_of_getElem? (i := 440) rfl
set_option maxRecDepth 20000 in
theorem wl_RX4_38 : Cond.methodLink RX4 38 yX0_stepBack ∈ wsL_law := List.mem_of_getElem? (i := 444) rfl
set_option maxRecDepth 20000 in
theorem wl_RX6_146 : Cond.methodLink RX6 146 yX6_comeBack ∈ wsL_law := List.mem_of_getElem? (i := 448) rfl
set_option maxRecDepth 20000 in
theorem wl_RX6_201 : Cond.methodLink RX6 201 yX3_remove ∈ wsL_law := List.mem_of_getElem? (i := 452) rfl
set_option maxRecDepth 20000 in
theorem wl_RX6_342 : Cond.methodLink RX6 342 yX3_holds ∈ wsL_law := List.mem_of_getElem? (i := 456) rfl
set_option maxRecDepth 20000 in
theorem wl_RX3_26 : Cond.methodLink RX3 26 yX3_has ∈ wsL_law := List.mem_of_getElem? (i := 460) rfl
set_option maxRecDepth 20000 in
theorem wl_RX3_29 : Cond.methodLink RX3 29 yX3_number ∈ wsL_law := List.mem_of_getElem? (i := 461) rfl
set_option maxRecDepth 20000 in
theorem wl_RX6_180 : Cond.methodLink RX6 180 yX3_put ∈ wsL_law := List.mem_of_getElem? (i := 462) rfl
set_option maxRecDepth 20000 in
theorem wl_RX6_150 : Cond.methodLink RX6 150 yX1_clear ∈ wsL_law := List.mem_of_getElem? (i := 466) rfl
set_option maxRecDepth 20000 in
theorem wl_RL_128 : Cond.methodLink RL 128 yX7_goBack ∈ wsL_law := List.mem_of_getElem? (i := 470) rfl
set_option maxRecDepth 20000 in
theorem wl_RX7_177 : Cond.methodLink RX7 177 yX7_canGoBack ∈ wsL_law := List.mem_of_getElem? (i := 474) rfl
set_option maxRecDepth 20000 in
theorem wl_RX7_174 : Cond.methodLink RX7 174 yX7_turnsBack ∈ wsL_law := List.mem_of_getElem? (i := 478) rfl
set_option maxRecDepth 20000 in
theorem wl_RX7_181 : Cond.methodLink RX7 181 yX7_goesBack ∈ wsL_law := List.mem_of_getElem? (i := 482) rfl
set_option maxRecDepth 20000 in
theorem wl_RL_129 : Cond.methodLink RL 129 yL_end ∈ wsL_law := List.mem_of_getElem? (i := 486) rfl
set_option maxRecDepth 20000 in
theorem wl_RL_32 : Cond.methodLink RL 32 yX6_end ∈ wsL_law := List.mem_of_getElem? (i := 489) rfl
set_option maxRecDepth 20000 in
theorem wl_RL_131 : Cond.methodLink RL 131 yX7_end ∈ wsL_law := List.mem_of_getElem? (i := 493) rfl
set_option maxRecDepth 20000 in
theorem wl_RL_132 : Cond.methodLink RL 132 yL_write ∈ wsL_law := List.mem_of_getElem? (i := 497) rfl
set_option maxRecDepth 20000 in
theorem wl_RL_35 : Cond.methodLink RL 35 yX6_write ∈ wsL_law := List.mem_of_getElem? (i := 500) rfl
set_option maxRecDepth 20000 in
theorem wl_RX6_153 : Cond.methodLink RX6 153 yX6_isTargetLive ∈ wsL_law := List.mem_of_getElem? (i := 504) rfl
set_option maxRecDepth 20000 in
theorem wl_RX6_156 : Cond.methodLink RX6 156 yX6_isKey ∈ wsL_law := List.mem_of_getElem? (i := 508) rfl
set_option maxRecDepth 20000 in
theorem wl_RX6_159 : Cond.methodLink RX6 159 yX6_isWithin ∈ wsL_law := List.mem_of_getElem? (i := 509) rfl
set_option maxRecDepth 20000 in
theorem wl_RX6_164 : Cond.methodLink RX6 164 yX6_isLogFull ∈ wsL_law := List.mem_of_getElem? (i := 510) rfl
set_option maxRecDepth 20000 in
theorem wl_RX6_315 : Cond.methodLink RX6 315 yX1_isFull ∈ wsL_law := List.mem_of_getElem? (i := 514) rfl
set_option maxRecDepth 20000 in
theorem wl_RX6_169 : Cond.methodLink RX6 169 yX6_isLive ∈ wsL_law := List.mem_of_getElem? (i := 518) rfl
set_option maxRecDepth 20000 in
theorem wl_RX6_176 : Cond.methodLink RX6 176 yX1_appendRow ∈ wsL_law := List.mem_of_getElem? (i := 522) rfl
set_option maxRecDepth 20000 in
theorem wl_RX1_29 : Cond.methodLink RX1 29 yX1_append ∈ wsL_law := List.mem_of_getElem? (i := 526) rfl
set_option maxRecDepth 20000 in
theorem wl_RL_135 : Cond.methodLink RL 135 yX7_write ∈ wsL_law := List.mem_of_getElem? (i := 530) rfl
set_option maxRecDepth 20000 in
theorem wl_RX7_184 : Cond.methodLink RX7 184 yX7_isByTarget ∈ wsL_law := List.mem_of_getElem? (i := 534) rfl
set_option maxRecDepth 20000 in
theorem wl_RX7_187 : Cond.methodLink RX7 187 yX7_isKey ∈ wsL_law := List.mem_of_getElem? (i := 538) rfl
set_option maxRecDepth 20000 in
theorem wl_RX7_190 : Cond.methodLink RX7 190 yX7_isLogFull ∈ wsL_law := List.mem_of_getElem? (i := 541) rfl
set_option maxRecDepth 20000 in
theorem wl_RX7_193 : Cond.methodLink RX7 193 yX7_writesTarget ∈ wsL_law := List.mem_of_getElem? (i := 545) rfl
set_option maxRecDepth 20000 in
theorem wl_RX7_200 : Cond.methodLink RX7 200 yX7_names ∈ wsL_law := List.mem_of_getElem? (i := 549) rfl
set_option maxRecDepth 20000 in
theorem wl_RX7_196 : Cond.methodLink RX7 196 yX7_logs ∈ wsL_law := List.mem_of_getElem? (i := 553) rfl
set_option maxRecDepth 20000 in
theorem wl_RL_136 : Cond.methodLink RL 136 yL_delete ∈ wsL_law := List.mem_of_getElem? (i := 557) rfl
set_option maxRecDepth 20000 in
theorem wl_RL_39 : Cond.methodLink RL 39 yX6_delete ∈ wsL_law := List.mem_of_getElem? (i := 560) rfl
set_option maxRecDepth 20000 in
theorem wl_RX6_186 : Cond.methodLink RX6 186 yX6_checkKey ∈ wsL_law := List.mem_of_getElem? (i := 564) rfl
set_option maxRecDepth 20000 in
theorem wl_RX6_198 : Cond.methodLink RX6 198 yX1_appendDeletion ∈ wsL_law := List.mem_of_getElem? (i := 567) rfl
set_option maxRecDepth 20000 in
theorem wl_RL_139 : Cond.methodLink RL 139 yX7_delete ∈ wsL_law := List.mem_of_getElem? (i := 571) rfl
set_option maxRecDepth 20000 in
theorem wl_RL_140 : Cond.methodLink RL 140 yL_read ∈ wsL_law := List.mem_of_getElem? (i := 575) rfl
set_option maxRecDepth 20000 in
theorem wl_RL_43 : Cond.methodLink RL 43 yX6_read ∈ wsL_law := List.mem_of_getElem? (i := 579) rfl
set_option maxRecDepth 20000 in
theorem wl_RL_143 : Cond.methodLink RL 143 yX7_read ∈ wsL_law := List.mem_of_getElem? (i := 585) rfl
set_option maxRecDepth 20000 in
theorem wl_RL_144 : Cond.methodLink RL 144 yL_nextNumber ∈ wsL_law := List.mem_of_getElem? (i := 589) rfl
set_option maxRecDepth 20000 in
theorem wl_RL_49 : Cond.methodLink RL 49 yX6_nextNumber ∈ wsL_law := List.mem_of_getElem? (i := 592) rfl
set_option maxRecDepth 20000 in
theorem wl_RL_146 : Cond.methodLink RL 146 yX7_nextNumber ∈ wsL_law := List.mem_of_getElem? (i := 596) rfl
set_option maxRecDepth 20000 in
theorem wl_RL_147 : Cond.methodLink RL 147 yL_readPart ∈ wsL_law := List.mem_of_getElem? (i := 600) rfl
set_option maxRecDepth 20000 in
theorem wl_RL_52 : Cond.methodLink RL 52 yX6_readPart ∈ wsL_law := List.mem_of_getElem? (i := 603) rfl
set_option maxRecDepth 20000 in
theorem wl_RX6_220 : Cond.methodLink RX6 220 yX2_take ∈ wsL_law := List.mem_of_getElem? (i := 607) rfl
set_option maxRecDepth 20000 in
theorem wl_RX2_46 : Cond.methodLink RX2 46 Lib.Math.min.name ∈ wsL_law := List.mem_of_getElem? (i := 612) rfl
set_option maxRecDepth 20000 in
theorem wl_RX2_42 : Cond.methodLink RX2 42 yX2_keysLeft ∈ wsL_law := List.mem_of_getElem? (i := 613) rfl
set_option maxRecDepth 20000 in
theorem wl_RX2_52 : Cond.methodLink RX2 52 yX3_has ∈ wsL_law := List.mem_of_getElem? (i := 614) rfl
set_option maxRecDepth 20000 in
theorem wl_RX2_56 : Cond.methodLink RX2 56 yX3_number ∈ wsL_law := List.mem_of_getElem? (i := 615) rfl
set_option maxRecDepth 20000 in
theorem wl_RX2_60 : Cond.methodLink RX2 60 yX3_put ∈ wsL_law := List.mem_of_getElem? (i := 616) rfl
set_option maxRecDepth 20000 in
theorem wl_RX2_64 : Cond.methodLink RX2 64 yX2_isPart ∈ wsL_law := List.mem_of_getElem? (i := 617) rfl
set_option maxRecDepth 20000 in
theorem wl_RL_149 : Cond.methodLink RL 149 yX7_readPart ∈ wsL_law := List.mem_of_getElem? (i := 620) rfl
set_option maxRecDepth 20000 in
theorem wl_RX7_203 : Cond.methodLink RX7 203 yX7_freePart ∈ wsL_law := List.mem_of_getElem? (i := 624) rfl
set_option maxRecDepth 20000 in
theorem wl_RL_150 : Cond.methodLink RL 150 yL_putDown ∈ wsL_law := List.mem_of_getElem? (i := 628) rfl
set_option maxRecDepth 20000 in
theorem wl_RL_56 : Cond.methodLink RL 56 yX6_putDown ∈ wsL_law := List.mem_of_getElem? (i := 632) rfl
set_option maxRecDepth 20000 in
theorem wl_RX6_224 : Cond.methodLink RX6 224 yX2_isWaiting ∈ wsL_law := List.mem_of_getElem? (i := 638) rfl
set_option maxRecDepth 20000 in
theorem wl_RX6_232 : Cond.methodLink RX6 232 yX2_stampOf ∈ wsL_law := List.mem_of_getElem? (i := 642) rfl
set_option maxRecDepth 20000 in
theorem wl_RX6_235 : Cond.methodLink RX6 235 yX2_endOf ∈ wsL_law := List.mem_of_getElem? (i := 646) rfl
set_option maxRecDepth 20000 in
theorem wl_RX6_238 : Cond.methodLink RX6 238 yX2_lowOf ∈ wsL_law := List.mem_of_getElem? (i := 650) rfl
set_option maxRecDepth 20000 in
theorem wl_RX6_241 : Cond.methodLink RX6 241 yX2_hasRow ∈ wsL_law := List.mem_of_getElem? (i := 654) rfl
set_option maxRecDepth 20000 in
theorem wl_RX6_244 : Cond.methodLink RX6 244 yX2_number ∈ wsL_law := List.mem_of_getElem? (i := 658) rfl
set_option maxRecDepth 20000 in
theorem wl_RX6_249 : Cond.methodLink RX6 249 yX2_finish ∈ wsL_law := List.mem_of_getElem? (i := 662) rfl
set_option maxRecDepth 20000 in
theorem wl_RX2_67 : Cond.methodLink RX2 67 yX2_isWaiting ∈ wsL_law := List.mem_of_getElem? (i := 666) rfl
set_option maxRecDepth 20000 in
theorem wl_RL_152 : Cond.methodLink RL 152 yX7_putDown ∈ wsL_law := List.mem_of_getElem? (i := 667) rfl
set_option maxRecDepth 20000 in
theorem wl_RX7_206 : Cond.methodLink RX7 206 yX7_placeOf ∈ wsL_law := List.mem_of_getElem? (i := 671) rfl
set_option maxRecDepth 20000 in
theorem wl_RL_153 : Cond.methodLink RL 153 yL_follow ∈ wsL_law := List.mem_of_getElem? (i := 675) rfl
set_option maxRecDepth 20000 in
theorem wl_RL_61 : Cond.methodLink RL 61 yX6_follow ∈ wsL_law := List.mem_of_getElem? (i := 678) rfl
set_option maxRecDepth 20000 in
theorem wl_RL_155 : Cond.methodLink RL 155 yX7_follow ∈ wsL_law := List.mem_of_getElem? (i := 682) rfl
set_option maxRecDepth 20000 in
theorem wl_RL_156 : Cond.methodLink RL 156 yX6_left ∈ wsL_law := List.mem_of_getElem? (i := 686) rfl
set_option maxRecDepth 20000 in
theorem wl_RL_159 : Cond.methodLink RL 159 yX7_left ∈ wsL_law := List.mem_of_getElem? (i := 690) rfl
set_option maxRecDepth 20000 in
theorem wl_RX7_210 : Cond.methodLink RX7 210 yX7_plain ∈ wsL_law := List.mem_of_getElem? (i := 694) rfl
set_option maxRecDepth 20000 in
theorem wl_RL_160 : Cond.methodLink RL 160 yX6_behind ∈ wsL_law := List.mem_of_getElem? (i := 698) rfl
set_option maxRecDepth 20000 in
theorem wl_RL_163 : Cond.methodLink RL 163 yX7_behind ∈ wsL_law := List.mem_of_getElem? (i := 702) rfl
set_option maxRecDepth 20000 in
theorem wl_RL_164 : Cond.methodLink RL 164 yX6_parts ∈ wsL_law := List.mem_of_getElem? (i := 706) rfl
set_option maxRecDepth 20000 in
theorem wl_RL_167 : Cond.methodLink RL 167 yX7_parts ∈ wsL_law := List.mem_of_getElem? (i := 710) rfl
set_option maxRecDepth 20000 in
theorem wl_RL_168 : Cond.methodLink RL 168 yL_state ∈ wsL_law := List.mem_of_getElem? (i := 714) rfl
set_option maxRecDepth 20000 in
theorem wl_RL_64 : Cond.methodLink RL 64 yX6_state ∈ wsL_law := List.mem_of_getElem? (i := 717) rfl
set_option maxRecDepth 20000 in
theorem wl_RX6_254 : Cond.methodLink RX6 254 yX6_stateOf ∈ wsL_law := List.mem_of_getElem? (i := 721) rfl
set_option maxRecDepth 20000 in
theorem wl_RX6_346 : Cond.methodLink RX6 346 yX5_isAside ∈ wsL_law := List.mem_of_getElem? (i := 725) rfl
set_option maxRecDepth 20000 in
theorem wl_RX6_349 : Cond.methodLink RX6 349 yX6_isEntryAsCouple ∈ wsL_law := List.mem_of_getElem? (i := 729) rfl
set_option maxRecDepth 20000 in
theorem wl_RL_170 : Cond.methodLink RL 170 yX7_state ∈ wsL_law := List.mem_of_getElem? (i := 733) rfl
set_option maxRecDepth 20000 in
theorem wl_RX7_213 : Cond.methodLink RX7 213 yX7_stateOf ∈ wsL_law := List.mem_of_getElem? (i := 737) rfl
set_option maxRecDepth 20000 in
theorem wl_RL_171 : Cond.methodLink RL 171 yL_stamp ∈ wsL_law := List.mem_of_getElem? (i := 741) rfl
set_option maxRecDepth 20000 in
theorem wl_RL_68 : Cond.methodLink RL 68 yX6_stamp ∈ wsL_law := List.mem_of_getElem? (i := 744) rfl
set_option maxRecDepth 20000 in
theorem wl_RX6_258 : Cond.methodLink RX6 258 yX5_isStamped ∈ wsL_law := List.mem_of_getElem? (i := 748) rfl
set_option maxRecDepth 20000 in
theorem wl_RX6_263 : Cond.methodLink RX6 263 yX5_stampOf ∈ wsL_law := List.mem_of_getElem? (i := 749) rfl
set_option maxRecDepth 20000 in
theorem wl_RL_173 : Cond.methodLink RL 173 yX7_stamp ∈ wsL_law := List.mem_of_getElem? (i := 750) rfl
set_option maxRecDepth 20000 in
theorem wl_RL_174 : Cond.methodLink RL 174 yL_turned ∈ wsL_law := List.mem_of_getElem? (i := 754) rfl
set_option maxRecDepth 20000 in
theorem wl_RL_71 : Cond.methodLink RL 71 yX6_turned ∈ wsL_law := List.mem_of_getElem? (i := 757) rfl
set_option maxRecDepth 20000 in
theorem wl_RL_176 : Cond.methodLink RL 176 yX7_turned ∈ wsL_law := List.mem_of_getElem? (i := 761) rfl
set_option maxRecDepth 20000 in
theorem wl_RL_177 : Cond.methodLink RL 177 yL_turnedBack ∈ wsL_law := List.mem_of_getElem? (i := 765) rfl
set_option maxRecDepth 20000 in
theorem wl_RL_74 : Cond.methodLink RL 74 yX6_turnedBack ∈ wsL_law := List.mem_of_getElem? (i := 768) rfl
set_option maxRecDepth 20000 in
theorem wl_RL_179 : Cond.methodLink RL 179 yX7_turnedBack ∈ wsL_law := List.mem_of_getElem? (i := 772) rfl
set_option maxRecDepth 20000 in
theorem wl_RL_180 : Cond.methodLink RL 180 yL_sum ∈ wsL_law := List.mem_of_getElem? (i := 776) rfl
set_option maxRecDepth 20000 in
theorem wl_RL_77 : Cond.methodLink RL 77 yX6_sum ∈ wsL_law := List.mem_of_getElem? (i := 779) rfl
set_option maxRecDepth 20000 in
theorem wl_RX6_287 : Cond.methodLink RX6 287 yX6_checkRange ∈ wsL_law := List.mem_of_getElem? (i := 783) rfl
set_option maxRecDepth 20000 in
theorem wl_RL_183 : Cond.methodLink RL 183 yX7_sum ∈ wsL_law := List.mem_of_getElem? (i := 786) rfl
set_option maxRecDepth 20000 in
theorem wl_RX7_221 : Cond.methodLink RX7 221 yX7_isRange ∈ wsL_law := List.mem_of_getElem? (i := 790) rfl
set_option maxRecDepth 20000 in
theorem wl_RL_184 : Cond.methodLink RL 184 yL_firstUnlike ∈ wsL_law := List.mem_of_getElem? (i := 793) rfl
set_option maxRecDepth 20000 in
theorem wl_RL_81 : Cond.methodLink RL 81 yX6_firstUnlike ∈ wsL_law := List.mem_of_getElem? (i := 796) rfl
set_option maxRecDepth 20000 in
theorem wl_RL_187 : Cond.methodLink RL 187 yX7_firstUnlike ∈ wsL_law := List.mem_of_getElem? (i := 800) rfl
set_option maxRecDepth 20000 in
theorem wl_RX7_224 : Cond.methodLink RX7 224 yX7_areUnlike ∈ wsL_law := List.mem_of_getElem? (i := 804) rfl
set_option maxRecDepth 20000 in
theorem wl_RL_188 : Cond.methodLink RL 188 yX6_compared ∈ wsL_law := List.mem_of_getElem? (i := 808) rfl
set_option maxRecDepth 20000 in
theorem wl_RL_191 : Cond.methodLink RL 191 yX7_compared ∈ wsL_law := List.mem_of_getElem? (i := 812) rfl
set_option maxRecDepth 20000 in
theorem wl_RL_192 : Cond.methodLink RL 192 yL_goal ∈ wsL_law := List.mem_of_getElem? (i := 816) rfl
set_option maxRecDepth 20000 in
theorem wl_RL_85 : Cond.methodLink RL 85 yX6_goal ∈ wsL_law := List.mem_of_getElem? (i := 819) rfl
set_option maxRecDepth 20000 in
theorem wl_RL_194 : Cond.methodLink RL 194 yX7_goal ∈ wsL_law := List.mem_of_getElem? (i := 823) rfl
set_option maxRecDepth 20000 in
theorem wl_RL_195 : Cond.methodLink RL 195 yL_movedShare ∈ wsL_law := List.mem_of_getElem? (i := 827) rfl
set_option maxRecDepth 20000 in
theorem wl_RL_88 : Cond.methodLink RL 88 yX6_movedShare ∈ wsL_law := List.mem_of_getElem? (i := 831) rfl
set_option maxRecDepth 20000 in
theorem wl_RX6_303 : Cond.methodLink RX6 303 yX6_countMoved ∈ wsL_law := List.mem_of_getElem? (i := 837) rfl
set_option maxRecDepth 20000 in
theorem wl_RL_198 : Cond.methodLink RL 198 yX7_movedShare ∈ wsL_law := List.mem_of_getElem? (i := 841) rfl
set_option maxRecDepth 20000 in
theorem wl_RX7_227 : Cond.methodLink RX7 227 yX7_manyMoved ∈ wsL_law := List.mem_of_getElem? (i := 845) rfl
set_option maxRecDepth 20000 in
theorem wl_RL_199 : Cond.methodLink RL 199 yX6_isAllMoved ∈ wsL_law := List.mem_of_getElem? (i := 849) rfl
set_option maxRecDepth 20000 in
theorem wl_RL_203 : Cond.methodLink RL 203 yX7_isAllMoved ∈ wsL_law := List.mem_of_getElem? (i := 853) rfl
set_option maxRecDepth 20000 in
theorem wl_RL_204 : Cond.methodLink RL 204 yL_meanStamp ∈ wsL_law := List.mem_of_getElem? (i := 857) rfl
set_option maxRecDepth 20000 in
theorem wl_RL_94 : Cond.methodLink RL 94 yX6_meanStamp ∈ wsL_law := List.mem_of_getElem? (i := 860) rfl
set_option maxRecDepth 20000 in
theorem wl_RX6_308 : Cond.methodLink RX6 308 yX5_addStamps ∈ wsL_law := List.mem_of_getElem? (i := 864) rfl
set_option maxRecDepth 20000 in
theorem wl_RL_206 : Cond.methodLink RL 206 yX7_meanStamp ∈ wsL_law := List.mem_of_getElem? (i := 868) rfl
set_option maxRecDepth 20000 in
theorem wf_RX6_10 : Cond.fieldLink RX6 10 "StoreMover" "steps" "LStoreMover$Steps;" ∈ wsL_law := List.mem_of_getElem? (i := 17) rfl
set_option maxRecDepth 20000 in
theorem wf_RX6_19 : Cond.fieldLink RX6 19 "StoreMover" "source" "LStoreMover$Rows;" ∈ wsL_law := List.mem_of_getElem? (i := 21) rfl
set_option maxRecDepth 20000 in
theorem wf_RX6_26 : Cond.fieldLink RX6 26 "StoreMover" "target" "LStoreMover$Target;" ∈ wsL_law := List.mem_of_getElem? (i := 25) rfl
set_option maxRecDepth 20000 in
theorem wf_RX6_33 : Cond.fieldLink RX6 33 "StoreMover" "firstLog" "LStoreMover$Log;" ∈ wsL_law := List.mem_of_getElem? (i := 29) rfl
set_option maxRecDepth 20000 in
theorem wf_RX6_37 : Cond.fieldLink RX6 37 "StoreMover" "secondLog" "LStoreMover$Log;" ∈ wsL_law := List.mem_of_getElem? (i := 30) rfl
set_option maxRecDepth 20000 in
theorem wf_RX6_43 : Cond.fieldLink RX6 43 "StoreMover" "copy" "LStoreMover$Parts;" ∈ wsL_law := List.mem_of_getElem? (i := 34) rfl
set_option maxRecDepth 20000 in
theorem wf_RX6_50 : Cond.fieldLink RX6 50 "StoreMover" "couple" "LStoreMover$Couple;" ∈ wsL_law := List.mem_of_getElem? (i := 38) rfl
set_option maxRecDepth 20000 in
theorem wf_RX6_54 : Cond.fieldLink RX6 54 "StoreMover" "phase" "C" ∈ wsL_law := List.mem_of_getElem? (i := 39) rfl
set_option maxRecDepth 20000 in
theorem wf_RX6_58 : Cond.fieldLink RX6 58 "StoreMover" "followed" "I" ∈ wsL_law := List.mem_of_getElem? (i := 40) rfl
set_option maxRecDepth 20000 in
theorem wf_RX6_62 : Cond.fieldLink RX6 62 "StoreMover" "nextEven" "I" ∈ wsL_law := List.mem_of_getElem? (i := 41) rfl
set_option maxRecDepth 20000 in
theorem wf_RX6_65 : Cond.fieldLink RX6 65 "StoreMover" "nextOdd" "I" ∈ wsL_law := List.mem_of_getElem? (i := 42) rfl
set_option maxRecDepth 20000 in
theorem wf_RX6_68 : Cond.fieldLink RX6 68 "StoreMover" "rangesCompared" "I" ∈ wsL_law := List.mem_of_getElem? (i := 43) rfl
set_option maxRecDepth 20000 in
theorem wf_RX4_9 : Cond.fieldLink RX4 9 "StoreMover$Steps" "kinds" "[C" ∈ wsL_law := List.mem_of_getElem? (i := 48) rfl
set_option maxRecDepth 20000 in
theorem wf_RX4_15 : Cond.fieldLink RX4 15 "StoreMover$Steps" "numbers" "[I" ∈ wsL_law := List.mem_of_getElem? (i := 50) rfl
set_option maxRecDepth 20000 in
theorem wf_RX3_9 : Cond.fieldLink RX3 9 "StoreMover$Rows" "there" "[Z" ∈ wsL_law := List.mem_of_getElem? (i := 55) rfl
set_option maxRecDepth 20000 in
theorem wf_RX3_15 : Cond.fieldLink RX3 15 "StoreMover$Rows" "ones" "[I" ∈ wsL_law := List.mem_of_getElem? (i := 56) rfl
set_option maxRecDepth 20000 in
theorem wf_RX3_19 : Cond.fieldLink RX3 19 "StoreMover$Rows" "others" "[I" ∈ wsL_law := List.mem_of_getElem? (i := 57) rfl
set_option maxRecDepth 20000 in
theorem wf_RX5_9 : Cond.fieldLink RX5 9 "StoreMover$Target" "kinds" "[I" ∈ wsL_law := List.mem_of_getElem? (i := 61) rfl
set_option maxRecDepth 20000 in
theorem wf_RX5_15 : Cond.fieldLink RX5 15 "StoreMover$Target" "stamps" "[I" ∈ wsL_law := List.mem_of_getElem? (i := 62) rfl
set_option maxRecDepth 20000 in
theorem wf_RX5_18 : Cond.fieldLink RX5 18 "StoreMover$Target" "ones" "[I" ∈ wsL_law := List.mem_of_getElem? (i := 63) rfl
set_option maxRecDepth 20000 in
theorem wf_RX5_21 : Cond.fieldLink RX5 21 "StoreMover$Target" "others" "[I" ∈ wsL_law := List.mem_of_getElem? (i := 64) rfl
set_option maxRecDepth 20000 in
theorem wf_RX1_9 : Cond.fieldLink RX1 9 "StoreMover$Log" "keys" "[I" ∈ wsL_law := List.mem_of_getElem? (i := 68) rfl
set_option maxRecDepth 20000 in
theorem wf_RX1_15 : Cond.fieldLink RX1 15 "StoreMover$Log" "deletions" "[Z" ∈ wsL_law := List.mem_of_getElem? (i := 69) rfl
set_option maxRecDepth 20000 in
theorem wf_RX1_19 : Cond.fieldLink RX1 19 "StoreMover$Log" "ones" "[I" ∈ wsL_law := List.mem_of_getElem? (i := 70) rfl
set_option maxRecDepth 20000 in
theorem wf_RX1_22 : Cond.fieldLink RX1 22 "StoreMover$Log" "others" "[I" ∈ wsL_law := List.mem_of_getElem? (i := 71) rfl
set_option maxRecDepth 20000 in
theorem wf_RX2_12 : Cond.fieldLink RX2 12 "StoreMover$Parts" "rows" "LStoreMover$Rows;" ∈ wsL_law := List.mem_of_getElem? (i := 76) rfl
set_option maxRecDepth 20000 in
theorem wf_RX2_18 : Cond.fieldLink RX2 18 "StoreMover$Parts" "lows" "[I" ∈ wsL_law := List.mem_of_getElem? (i := 77) rfl
set_option maxRecDepth 20000 in
theorem wf_RX2_22 : Cond.fieldLink RX2 22 "StoreMover$Parts" "ends" "[I" ∈ wsL_law := List.mem_of_getElem? (i := 78) rfl
set_option maxRecDepth 20000 in
theorem wf_RX2_25 : Cond.fieldLink RX2 25 "StoreMover$Parts" "stamps" "[I" ∈ wsL_law := List.mem_of_getElem? (i := 79) rfl
set_option maxRecDepth 20000 in
theorem wf_RX2_28 : Cond.fieldLink RX2 28 "StoreMover$Parts" "waits" "[Z" ∈ wsL_law := List.mem_of_getElem? (i := 80) rfl
set_option maxRecDepth 20000 in
theorem wf_RX7_7 : Cond.fieldLink RX7 7 "StoreMoverModel" "kinds" "[C" ∈ wsL_law := List.mem_of_getElem? (i := 88) rfl
set_option maxRecDepth 20000 in
theorem wf_RX7_13 : Cond.fieldLink RX7 13 "StoreMoverModel" "held" "[C" ∈ wsL_law := List.mem_of_getElem? (i := 89) rfl
set_option maxRecDepth 20000 in
theorem wf_RX7_16 : Cond.fieldLink RX7 16 "StoreMoverModel" "numbers" "[I" ∈ wsL_law := List.mem_of_getElem? (i := 90) rfl
set_option maxRecDepth 20000 in
theorem wf_RX7_20 : Cond.fieldLink RX7 20 "StoreMoverModel" "as" "[I" ∈ wsL_law := List.mem_of_getElem? (i := 91) rfl
set_option maxRecDepth 20000 in
theorem wf_RX7_23 : Cond.fieldLink RX7 23 "StoreMoverModel" "bs" "[I" ∈ wsL_law := List.mem_of_getElem? (i := 92) rfl
set_option maxRecDepth 20000 in
theorem wf_RX7_26 : Cond.fieldLink RX7 26 "StoreMoverModel" "ps" "[I" ∈ wsL_law := List.mem_of_getElem? (i := 93) rfl
set_option maxRecDepth 20000 in
theorem wf_RX7_29 : Cond.fieldLink RX7 29 "StoreMoverModel" "qs" "[I" ∈ wsL_law := List.mem_of_getElem? (i := 94) rfl
set_option maxRecDepth 20000 in
theorem wf_RX7_32 : Cond.fieldLink RX7 32 "StoreMoverModel" "stamps" "[I" ∈ wsL_law := List.mem_of_getElem? (i := 95) rfl
set_option maxRecDepth 20000 in
theorem wf_RX7_35 : Cond.fieldLink RX7 35 "StoreMoverModel" "areRows" "[Z" ∈ wsL_law := List.mem_of_getElem? (i := 96) rfl
set_option maxRecDepth 20000 in
theorem wf_RX7_39 : Cond.fieldLink RX7 39 "StoreMoverModel" "areNamed" "[Z" ∈ wsL_law := List.mem_of_getElem? (i := 97) rfl
set_option maxRecDepth 20000 in
theorem wf_RX7_42 : Cond.fieldLink RX7 42 "StoreMoverModel" "keys" "[I" ∈ wsL_law := List.mem_of_getElem? (i := 98) rfl
set_option maxRecDepth 20000 in
theorem wf_RX7_45 : Cond.fieldLink RX7 45 "StoreMoverModel" "ones" "[I" ∈ wsL_law := List.mem_of_getElem? (i := 99) rfl
set_option maxRecDepth 20000 in
theorem wf_RX7_48 : Cond.fieldLink RX7 48 "StoreMoverModel" "others" "[I" ∈ wsL_law := List.mem_of_getElem? (i := 100) rfl
set_option maxRecDepth 20000 in
theorem wf_RX7_51 : Cond.fieldLink RX7 51 "StoreMoverModel" "partNumbers" "[I" ∈ wsL_law := List.mem_of_getElem? (i := 101) rfl
set_option maxRecDepth 20000 in
theorem wf_RX7_54 : Cond.fieldLink RX7 54 "StoreMoverModel" "partStamps" "[I" ∈ wsL_law := List.mem_of_getElem? (i := 102) rfl
set_option maxRecDepth 20000 in
theorem wf_RX7_57 : Cond.fieldLink RX7 57 "StoreMoverModel" "partOnes" "[I" ∈ wsL_law := List.mem_of_getElem? (i := 103) rfl
set_option maxRecDepth 20000 in
theorem wf_RX7_60 : Cond.fieldLink RX7 60 "StoreMoverModel" "partOthers" "[I" ∈ wsL_law := List.mem_of_getElem? (i := 104) rfl
set_option maxRecDepth 20000 in
theorem wf_RX7_63 : Cond.fieldLink RX7 63 "StoreMoverModel" "areDeletions" "[Z" ∈ wsL_law := List.mem_of_getElem? (i := 105) rfl
set_option maxRecDepth 20000 in
theorem wf_RX7_66 : Cond.fieldLink RX7 66 "StoreMoverModel" "arePartRows" "[Z" ∈ wsL_law := List.mem_of_getElem? (i := 106) rfl
set_option maxRecDepth 20000 in
theorem wf_RX7_69 : Cond.fieldLink RX7 69 "StoreMoverModel" "thrown" "I" ∈ wsL_law := List.mem_of_getElem? (i := 107) rfl
set_option maxRecDepth 20000 in
theorem wf_RX7_73 : Cond.fieldLink RX7 73 "StoreMoverModel" "steps" "I" ∈ wsL_law := List.mem_of_getElem? (i := 108) rfl
set_option maxRecDepth 20000 in
theorem wf_RX7_76 : Cond.fieldLink RX7 76 "StoreMoverModel" "changes" "I" ∈ wsL_law := List.mem_of_getElem? (i := 109) rfl
set_option maxRecDepth 20000 in
theorem wf_RX7_79 : Cond.fieldLink RX7 79 "StoreMoverModel" "followed" "I" ∈ wsL_law := List.mem_of_getElem? (i := 110) rfl
set_option maxRecDepth 20000 in
theorem wf_RX7_82 : Cond.fieldLink RX7 82 "StoreMoverModel" "secondChanges" "I" ∈ wsL_law := List.mem_of_getElem? (i := 111) rfl
set_option maxRecDepth 20000 in
theorem wf_RX7_85 : Cond.fieldLink RX7 85 "StoreMoverModel" "read" "I" ∈ wsL_law := List.mem_of_getElem? (i := 112) rfl
set_option maxRecDepth 20000 in
theorem wf_RX7_88 : Cond.fieldLink RX7 88 "StoreMoverModel" "parts" "I" ∈ wsL_law := List.mem_of_getElem? (i := 113) rfl
set_option maxRecDepth 20000 in
theorem wf_RX7_91 : Cond.fieldLink RX7 91 "StoreMoverModel" "partsWaiting" "I" ∈ wsL_law := List.mem_of_getElem? (i := 114) rfl
set_option maxRecDepth 20000 in
theorem wf_RX7_94 : Cond.fieldLink RX7 94 "StoreMoverModel" "evens" "I" ∈ wsL_law := List.mem_of_getElem? (i := 115) rfl
set_option maxRecDepth 20000 in
theorem wf_RX7_97 : Cond.fieldLink RX7 97 "StoreMoverModel" "odds" "I" ∈ wsL_law := List.mem_of_getElem? (i := 116) rfl
set_option maxRecDepth 20000 in
theorem wf_RX7_100 : Cond.fieldLink RX7 100 "StoreMoverModel" "compared" "I" ∈ wsL_law := List.mem_of_getElem? (i := 117) rfl
set_option maxRecDepth 20000 in
theorem wf_RX7_103 : Cond.fieldLink RX7 103 "StoreMoverModel" "first" "I" ∈ wsL_law := List.mem_of_getElem? (i := 118) rfl
set_option maxRecDepth 20000 in
theorem wf_RX7_106 : Cond.fieldLink RX7 106 "StoreMoverModel" "second" "I" ∈ wsL_law := List.mem_of_getElem? (i := 119) rfl
set_option maxRecDepth 20000 in
theorem wf_RX7_109 : Cond.fieldLink RX7 109 "StoreMoverModel" "phase" "C" ∈ wsL_law := List.mem_of_getElem? (i := 120) rfl
set_option maxRecDepth 20000 in
theorem wf_RX4_23 : Cond.fieldLink RX4 23 "StoreMover$Steps" "size" "I" ∈ wsL_law := List.mem_of_getElem? (i := 144) rfl
set_option maxRecDepth 20000 in
theorem wf_RX2_32 : Cond.fieldLink RX2 32 "StoreMover$Parts" "nextKey" "I" ∈ wsL_law := List.mem_of_getElem? (i := 215) rfl
set_option maxRecDepth 20000 in
theorem wf_RX2_36 : Cond.fieldLink RX2 36 "StoreMover$Parts" "waiting" "I" ∈ wsL_law := List.mem_of_getElem? (i := 220) rfl
set_option maxRecDepth 20000 in
theorem wf_RX1_25 : Cond.fieldLink RX1 25 "StoreMover$Log" "size" "I" ∈ wsL_law := List.mem_of_getElem? (i := 233) rfl
set_option maxRecDepth 20000 in
theorem wf_RX0_7 : Cond.fieldLink RX0 7 "StoreMover$Couple" "one" "I" ∈ wsL_law := List.mem_of_getElem? (i := 275) rfl
set_option maxRecDepth 20000 in
theorem wf_RX0_13 : Cond.fieldLink RX0 13 "StoreMover$Couple" "other" "I" ∈ wsL_law := List.mem_of_getElem? (i := 276) rfl
set_option maxRecDepth 20000 in
theorem wf_RX2_39 : Cond.fieldLink RX2 39 "StoreMover$Parts" "count" "I" ∈ wsL_law := List.mem_of_getElem? (i := 611) rfl
set_option maxRecDepth 20000 in
theorem wk_RX4_33 : Cond.constant RX4 33 (99999) ∈ wsL_law := List.mem_of_getElem? (i := 281) rfl
set_option maxRecDepth 20000 in
theorem wk_RX7_123 : Cond.constant RX7 123 (99999) ∈ wsL_law := List.mem_of_getElem? (i := 338) rfl
set_option maxRecDepth 20000 in
theorem wk_RX6_363 : Cond.constantLong RX6 363 (1000) ∈ wsL_law := List.mem_of_getElem? (i := 389) rfl
set_option maxRecDepth 20000 in
theorem wk_RX6_365 : Cond.constantLong RX6 365 (31) ∈ wsL_law := List.mem_of_getElem? (i := 390) rfl
set_option maxRecDepth 20000 in
theorem wk_RX7_217 : Cond.constantLong RX7 217 (1000) ∈ wsL_law := List.mem_of_getElem? (i := 423) rfl
set_option maxRecDepth 20000 in
theorem wk_RX7_219 : Cond.constantLong RX7 219 (31) ∈ wsL_law := List.mem_of_getElem? (i := 424) rfl
set_option maxRecDepth 20000 in
theorem wc_RL_8 : Cond.classLink RL 8 RX6 ∈ wsL_law := List.mem_of_getElem? (i := 0) rfl
set_option maxRecDepth 20000 in
theorem wc_RL_99 : Cond.classLink RL 99 RX7 ∈ wsL_law := List.mem_of_getElem? (i := 3) rfl
set_option maxRecDepth 20000 in
theorem wc_RL_13 : Cond.classLink RL 13 "java/lang/IllegalArgumentException" ∈ wsL_law := List.mem_of_getElem? (i := 125) rfl
set_option maxRecDepth 20000 in
theorem wc_RL_15 : Cond.classLink RL 15 "java/lang/IllegalStateException" ∈ wsL_law := List.mem_of_getElem? (i := 126) rfl
set_option maxRecDepth 20000 in
theorem wc_RL_24 : Cond.classLink RL 24 "java/lang/UnsupportedOperationException" ∈ wsL_law := List.mem_of_getElem? (i := 204) rfl
set_option maxRecDepth 20000 in
theorem wc_RL_47 : Cond.classLink RL 47 "java/util/NoSuchElementException" ∈ wsL_law := List.mem_of_getElem? (i := 578) rfl
set_option maxRecDepth 20000 in
theorem wc_RL_59 : Cond.classLink RL 59 "java/lang/IndexOutOfBoundsException" ∈ wsL_law := List.mem_of_getElem? (i := 631) rfl
set_option maxRecDepth 20000 in
theorem wc_RL_92 : Cond.classLink RL 92 "java/lang/ArithmeticException" ∈ wsL_law := List.mem_of_getElem? (i := 830) rfl
set_option maxRecDepth 20000 in
theorem qyX6_addStep : sm_yV yX6_addStep cX6_addStep 3 (some .int) 2 := ⟨List.mem_of_getElem? (i := 128) rfl, List.mem_of_getElem? (i := 129) rfl, List.mem_of_getElem? (i := 2) rfl, List.mem_of_getElem? (i := 130) rfl, by decide +kernel, by decide +kernel, by decide +kernel⟩
set_option maxRecDepth 20000 in
theorem qyX4_isStep : sm_yS yX4_isStep cX4_isStep 2 (some .boolean) 2 := ⟨List.mem_of_getElem? (i := 136) rfl, List.mem_of_getElem? (i := 16) rfl, List.mem_of_getElem? (i := 137) rfl, by decide +kernel, by decide +kernel, by decide +kernel⟩
set_option maxRecDepth 20000 in
theorem qyX6_isWithin : sm_yS yX6_isWithin cX6_isWithin 2 (some .boolean) 2 := ⟨List.mem_of_getElem? (i := 138) rfl, List.mem_of_getElem? (i := 2) rfl, List.mem_of_getElem? (i := 139) rfl, by decide +kernel, by decide +kernel, by decide +kernel⟩
set_option maxRecDepth 20000 in
theorem qyX4_isFull : sm_yV yX4_isFull cX4_isFull 1 (some .boolean) 0 := ⟨List.mem_of_getElem? (i := 141) rfl, List.mem_of_getElem? (i := 142) rfl, List.mem_of_getElem? (i := 16) rfl, List.mem_of_getElem? (i := 143) rfl, by decide +kernel, by decide +kernel, by decide +kernel⟩
set_option maxRecDepth 20000 in
theorem qyX4_append : sm_yV yX4_append cX4_append 3 none 2 := ⟨List.mem_of_getElem? (i := 146) rfl, List.mem_of_getElem? (i := 147) rfl, List.mem_of_getElem? (i := 16) rfl, List.mem_of_getElem? (i := 148) rfl, by decide +kernel, by decide +kernel, by decide +kernel⟩
set_option maxRecDepth 20000 in
theorem qyX4_size : sm_yV yX4_size cX4_size 1 (some .int) 0 := ⟨List.mem_of_getElem? (i := 150) rfl, List.mem_of_getElem? (i := 151) rfl, List.mem_of_getElem? (i := 16) rfl, List.mem_of_getElem? (i := 152) rfl, by decide +kernel, by decide +kernel, by decide +kernel⟩
set_option maxRecDepth 20000 in
theorem qyX7_addStep : sm_yV yX7_addStep cX7_addStep 3 (some .int) 2 := ⟨List.mem_of_getElem? (i := 154) rfl, List.mem_of_getElem? (i := 155) rfl, List.mem_of_getElem? (i := 5) rfl, List.mem_of_getElem? (i := 156) rfl, by decide +kernel, by decide +kernel, by decide +kernel⟩
set_option maxRecDepth 20000 in
theorem qyX7_isKind : sm_yS yX7_isKind cX7_isKind 1 (some .boolean) 1 := ⟨List.mem_of_getElem? (i := 158) rfl, List.mem_of_getElem? (i := 5) rfl, List.mem_of_getElem? (i := 159) rfl, by decide +kernel, by decide +kernel, by decide +kernel⟩
set_option maxRecDepth 20000 in
theorem qyX7_isNumber : sm_yS yX7_isNumber cX7_isNumber 2 (some .boolean) 2 := ⟨List.mem_of_getElem? (i := 161) rfl, List.mem_of_getElem? (i := 5) rfl, List.mem_of_getElem? (i := 162) rfl, by decide +kernel, by decide +kernel, by decide +kernel⟩
set_option maxRecDepth 20000 in
theorem qyX7_in : sm_yS yX7_in cX7_in 3 (some .boolean) 3 := ⟨List.mem_of_getElem? (i := 164) rfl, List.mem_of_getElem? (i := 5) rfl, List.mem_of_getElem? (i := 165) rfl, by decide +kernel, by decide +kernel, by decide +kernel⟩
set_option maxRecDepth 20000 in
theorem qyX7_thrown : sm_yV yX7_thrown cX7_thrown 1 (some .int) 0 := ⟨List.mem_of_getElem? (i := 167) rfl, List.mem_of_getElem? (i := 168) rfl, List.mem_of_getElem? (i := 5) rfl, List.mem_of_getElem? (i := 169) rfl, by decide +kernel, by decide +kernel, by decide +kernel⟩
set_option maxRecDepth 20000 in
theorem qyX6_start : sm_yV yX6_start cX6_start 1 (some .int) 0 := ⟨List.mem_of_getElem? (i := 174) rfl, List.mem_of_getElem? (i := 175) rfl, List.mem_of_getElem? (i := 2) rfl, List.mem_of_getElem? (i := 176) rfl, by decide +kernel, by decide +kernel, by decide +kernel⟩
set_option maxRecDepth 20000 in
theorem qyX3_count : sm_yV yX3_count cX3_count 3 (some .int) 0 := ⟨List.mem_of_getElem? (i := 178) rfl, List.mem_of_getElem? (i := 179) rfl, List.mem_of_getElem? (i := 20) rfl, List.mem_of_getElem? (i := 180) rfl, by decide +kernel, by decide +kernel, by decide +kernel⟩
set_option maxRecDepth 20000 in
theorem qyX7_start : sm_yV yX7_start cX7_start 1 (some .int) 0 := ⟨List.mem_of_getElem? (i := 182) rfl, List.mem_of_getElem? (i := 183) rfl, List.mem_of_getElem? (i := 5) rfl, List.mem_of_getElem? (i := 184) rfl, by decide +kernel, by decide +kernel, by decide +kernel⟩
set_option maxRecDepth 20000 in
theorem qyX7_checked : sm_yV yX7_checked cX7_checked 2 (some .int) 1 := ⟨List.mem_of_getElem? (i := 186) rfl, List.mem_of_getElem? (i := 187) rfl, List.mem_of_getElem? (i := 5) rfl, List.mem_of_getElem? (i := 188) rfl, by decide +kernel, by decide +kernel, by decide +kernel⟩
set_option maxRecDepth 20000 in
theorem qyX7_manyRows : sm_yV yX7_manyRows cX7_manyRows 3 (some .int) 0 := ⟨List.mem_of_getElem? (i := 190) rfl, List.mem_of_getElem? (i := 191) rfl, List.mem_of_getElem? (i := 5) rfl, List.mem_of_getElem? (i := 192) rfl, by decide +kernel, by decide +kernel, by decide +kernel⟩
set_option maxRecDepth 20000 in
theorem qyX6_phase : sm_yV yX6_phase cX6_phase 1 (some .char) 0 := ⟨List.mem_of_getElem? (i := 194) rfl, List.mem_of_getElem? (i := 195) rfl, List.mem_of_getElem? (i := 2) rfl, List.mem_of_getElem? (i := 196) rfl, by decide +kernel, by decide +kernel, by decide +kernel⟩
set_option maxRecDepth 20000 in
theorem qyX7_phase : sm_yV yX7_phase cX7_phase 1 (some .char) 0 := ⟨List.mem_of_getElem? (i := 198) rfl, List.mem_of_getElem? (i := 199) rfl, List.mem_of_getElem? (i := 5) rfl, List.mem_of_getElem? (i := 200) rfl, by decide +kernel, by decide +kernel, by decide +kernel⟩
set_option maxRecDepth 20000 in
theorem qyX6_goToBoth : sm_yV yX6_goToBoth cX6_goToBoth 2 (some .int) 0 := ⟨List.mem_of_getElem? (i := 206) rfl, List.mem_of_getElem? (i := 207) rfl, List.mem_of_getElem? (i := 2) rfl, List.mem_of_getElem? (i := 208) rfl, by decide +kernel, by decide +kernel, by decide +kernel⟩
set_option maxRecDepth 20000 in
theorem qyX2_keysLeft : sm_yV yX2_keysLeft cX2_keysLeft 1 (some .int) 0 := ⟨List.mem_of_getElem? (i := 212) rfl, List.mem_of_getElem? (i := 213) rfl, List.mem_of_getElem? (i := 33) rfl, List.mem_of_getElem? (i := 214) rfl, by decide +kernel, by decide +kernel, by decide +kernel⟩
set_option maxRecDepth 20000 in
theorem qyX2_waiting : sm_yV yX2_waiting cX2_waiting 1 (some .int) 0 := ⟨List.mem_of_getElem? (i := 217) rfl, List.mem_of_getElem? (i := 218) rfl, List.mem_of_getElem? (i := 33) rfl, List.mem_of_getElem? (i := 219) rfl, by decide +kernel, by decide +kernel, by decide +kernel⟩
set_option maxRecDepth 20000 in
theorem qyX6_followUpTo : sm_yV yX6_followUpTo cX6_followUpTo 4 (some .int) 1 := ⟨List.mem_of_getElem? (i := 222) rfl, List.mem_of_getElem? (i := 223) rfl, List.mem_of_getElem? (i := 2) rfl, List.mem_of_getElem? (i := 224) rfl, by decide +kernel, by decide +kernel, by decide +kernel⟩
set_option maxRecDepth 20000 in
theorem qyX1_size : sm_yV yX1_size cX1_size 1 (some .int) 0 := ⟨List.mem_of_getElem? (i := 230) rfl, List.mem_of_getElem? (i := 231) rfl, List.mem_of_getElem? (i := 28) rfl, List.mem_of_getElem? (i := 232) rfl, by decide +kernel, by decide +kernel, by decide +kernel⟩
set_option maxRecDepth 20000 in
theorem qyX6_followNext : sm_yV yX6_followNext cX6_followNext 4 none 0 := ⟨List.mem_of_getElem? (i := 235) rfl, List.mem_of_getElem? (i := 236) rfl, List.mem_of_getElem? (i := 2) rfl, List.mem_of_getElem? (i := 237) rfl, by decide +kernel, by decide +kernel, by decide +kernel⟩
set_option maxRecDepth 20000 in
theorem qyX1_key : sm_yV yX1_key cX1_key 2 (some .int) 1 := ⟨List.mem_of_getElem? (i := 239) rfl, List.mem_of_getElem? (i := 240) rfl, List.mem_of_getElem? (i := 28) rfl, List.mem_of_getElem? (i := 241) rfl, by decide +kernel, by decide +kernel, by decide +kernel⟩
set_option maxRecDepth 20000 in
theorem qyX1_isIndex : sm_yS yX1_isIndex cX1_isIndex 1 (some .boolean) 1 := ⟨List.mem_of_getElem? (i := 243) rfl, List.mem_of_getElem? (i := 28) rfl, List.mem_of_getElem? (i := 244) rfl, by decide +kernel, by decide +kernel, by decide +kernel⟩
set_option maxRecDepth 20000 in
theorem qyX1_isDeletion : sm_yV yX1_isDeletion cX1_isDeletion 2 (some .boolean) 1 := ⟨List.mem_of_getElem? (i := 246) rfl, List.mem_of_getElem? (i := 247) rfl, List.mem_of_getElem? (i := 28) rfl, List.mem_of_getElem? (i := 248) rfl, by decide +kernel, by decide +kernel, by decide +kernel⟩
set_option maxRecDepth 20000 in
theorem qyX1_number : sm_yV yX1_number cX1_number 3 (some .int) 2 := ⟨List.mem_of_getElem? (i := 250) rfl, List.mem_of_getElem? (i := 251) rfl, List.mem_of_getElem? (i := 28) rfl, List.mem_of_getElem? (i := 252) rfl, by decide +kernel, by decide +kernel, by decide +kernel⟩
set_option maxRecDepth 20000 in
theorem qyX6_putRowDown : sm_yV yX6_putRowDown cX6_putRowDown 5 (some .boolean) 4 := ⟨List.mem_of_getElem? (i := 254) rfl, List.mem_of_getElem? (i := 255) rfl, List.mem_of_getElem? (i := 2) rfl, List.mem_of_getElem? (i := 256) rfl, by decide +kernel, by decide +kernel, by decide +kernel⟩
set_option maxRecDepth 20000 in
theorem qyX5_givesWay : sm_yV yX5_givesWay cX5_givesWay 3 (some .boolean) 2 := ⟨List.mem_of_getElem? (i := 258) rfl, List.mem_of_getElem? (i := 259) rfl, List.mem_of_getElem? (i := 24) rfl, List.mem_of_getElem? (i := 260) rfl, by decide +kernel, by decide +kernel, by decide +kernel⟩
set_option maxRecDepth 20000 in
theorem qyX5_isStamped : sm_yV yX5_isStamped cX5_isStamped 2 (some .boolean) 1 := ⟨List.mem_of_getElem? (i := 262) rfl, List.mem_of_getElem? (i := 263) rfl, List.mem_of_getElem? (i := 24) rfl, List.mem_of_getElem? (i := 264) rfl, by decide +kernel, by decide +kernel, by decide +kernel⟩
set_option maxRecDepth 20000 in
theorem qyX6_isKey : sm_yS yX6_isKey cX6_isKey 1 (some .boolean) 1 := ⟨List.mem_of_getElem? (i := 265) rfl, List.mem_of_getElem? (i := 2) rfl, List.mem_of_getElem? (i := 266) rfl, by decide +kernel, by decide +kernel, by decide +kernel⟩
set_option maxRecDepth 20000 in
theorem qyX5_stampOf : sm_yV yX5_stampOf cX5_stampOf 2 (some .int) 1 := ⟨List.mem_of_getElem? (i := 268) rfl, List.mem_of_getElem? (i := 269) rfl, List.mem_of_getElem? (i := 24) rfl, List.mem_of_getElem? (i := 270) rfl, by decide +kernel, by decide +kernel, by decide +kernel⟩
set_option maxRecDepth 20000 in
theorem qyX0_set : sm_yV yX0_set cX0_set 3 none 2 := ⟨List.mem_of_getElem? (i := 272) rfl, List.mem_of_getElem? (i := 273) rfl, List.mem_of_getElem? (i := 37) rfl, List.mem_of_getElem? (i := 274) rfl, by decide +kernel, by decide +kernel, by decide +kernel⟩
set_option maxRecDepth 20000 in
theorem qyX4_turn : sm_yV yX4_turn cX4_turn 3 (some .boolean) 1 := ⟨List.mem_of_getElem? (i := 278) rfl, List.mem_of_getElem? (i := 279) rfl, List.mem_of_getElem? (i := 16) rfl, List.mem_of_getElem? (i := 280) rfl, by decide +kernel, by decide +kernel, by decide +kernel⟩
set_option maxRecDepth 20000 in
theorem qyX0_step : sm_yV yX0_step cX0_step 4 none 2 := ⟨List.mem_of_getElem? (i := 283) rfl, List.mem_of_getElem? (i := 284) rfl, List.mem_of_getElem? (i := 37) rfl, List.mem_of_getElem? (i := 285) rfl, by decide +kernel, by decide +kernel, by decide +kernel⟩
set_option maxRecDepth 20000 in
theorem qyX0_areBothWithin : sm_yV yX0_areBothWithin cX0_areBothWithin 2 (some .boolean) 1 := ⟨List.mem_of_getElem? (i := 287) rfl, List.mem_of_getElem? (i := 288) rfl, List.mem_of_getElem? (i := 37) rfl, List.mem_of_getElem? (i := 289) rfl, by decide +kernel, by decide +kernel, by decide +kernel⟩
set_option maxRecDepth 20000 in
theorem qyX0_number : sm_yV yX0_number cX0_number 2 (some .int) 1 := ⟨List.mem_of_getElem? (i := 291) rfl, List.mem_of_getElem? (i := 292) rfl, List.mem_of_getElem? (i := 37) rfl, List.mem_of_getElem? (i := 293) rfl, by decide +kernel, by decide +kernel, by decide +kernel⟩
set_option maxRecDepth 20000 in
theorem qyX5_putEntry : sm_yV yX5_putEntry cX5_putEntry 5 none 4 := ⟨List.mem_of_getElem? (i := 295) rfl, List.mem_of_getElem? (i := 296) rfl, List.mem_of_getElem? (i := 24) rfl, List.mem_of_getElem? (i := 297) rfl, by decide +kernel, by decide +kernel, by decide +kernel⟩
set_option maxRecDepth 20000 in
theorem qyX5_putAside : sm_yV yX5_putAside cX5_putAside 3 none 2 := ⟨List.mem_of_getElem? (i := 299) rfl, List.mem_of_getElem? (i := 300) rfl, List.mem_of_getElem? (i := 24) rfl, List.mem_of_getElem? (i := 301) rfl, by decide +kernel, by decide +kernel, by decide +kernel⟩
set_option maxRecDepth 20000 in
theorem qyX5_put : sm_yV yX5_put cX5_put 4 none 3 := ⟨List.mem_of_getElem? (i := 303) rfl, List.mem_of_getElem? (i := 304) rfl, List.mem_of_getElem? (i := 24) rfl, List.mem_of_getElem? (i := 305) rfl, by decide +kernel, by decide +kernel, by decide +kernel⟩
set_option maxRecDepth 20000 in
theorem qyX5_putTrace : sm_yV yX5_putTrace cX5_putTrace 3 none 2 := ⟨List.mem_of_getElem? (i := 307) rfl, List.mem_of_getElem? (i := 308) rfl, List.mem_of_getElem? (i := 24) rfl, List.mem_of_getElem? (i := 309) rfl, by decide +kernel, by decide +kernel, by decide +kernel⟩
set_option maxRecDepth 20000 in
theorem qyX7_goToBoth : sm_yV yX7_goToBoth cX7_goToBoth 2 (some .int) 0 := ⟨List.mem_of_getElem? (i := 311) rfl, List.mem_of_getElem? (i := 312) rfl, List.mem_of_getElem? (i := 5) rfl, List.mem_of_getElem? (i := 313) rfl, by decide +kernel, by decide +kernel, by decide +kernel⟩
set_option maxRecDepth 20000 in
theorem qyX7_followsOne : sm_yV yX7_followsOne cX7_followsOne 2 none 0 := ⟨List.mem_of_getElem? (i := 315) rfl, List.mem_of_getElem? (i := 316) rfl, List.mem_of_getElem? (i := 5) rfl, List.mem_of_getElem? (i := 317) rfl, by decide +kernel, by decide +kernel, by decide +kernel⟩
set_option maxRecDepth 20000 in
theorem qyX7_takesAway : sm_yV yX7_takesAway cX7_takesAway 3 none 2 := ⟨List.mem_of_getElem? (i := 319) rfl, List.mem_of_getElem? (i := 320) rfl, List.mem_of_getElem? (i := 5) rfl, List.mem_of_getElem? (i := 321) rfl, by decide +kernel, by decide +kernel, by decide +kernel⟩
set_option maxRecDepth 20000 in
theorem qyX7_isLater : sm_yV yX7_isLater cX7_isLater 3 (some .boolean) 2 := ⟨List.mem_of_getElem? (i := 323) rfl, List.mem_of_getElem? (i := 324) rfl, List.mem_of_getElem? (i := 5) rfl, List.mem_of_getElem? (i := 325) rfl, by decide +kernel, by decide +kernel, by decide +kernel⟩
set_option maxRecDepth 20000 in
theorem qyX7_holds : sm_yV yX7_holds cX7_holds 4 none 3 := ⟨List.mem_of_getElem? (i := 327) rfl, List.mem_of_getElem? (i := 328) rfl, List.mem_of_getElem? (i := 5) rfl, List.mem_of_getElem? (i := 329) rfl, by decide +kernel, by decide +kernel, by decide +kernel⟩
set_option maxRecDepth 20000 in
theorem qyX7_puts : sm_yV yX7_puts cX7_puts 6 (some .boolean) 4 := ⟨List.mem_of_getElem? (i := 331) rfl, List.mem_of_getElem? (i := 332) rfl, List.mem_of_getElem? (i := 5) rfl, List.mem_of_getElem? (i := 333) rfl, by decide +kernel, by decide +kernel, by decide +kernel⟩
set_option maxRecDepth 20000 in
theorem qyX7_turns : sm_yV yX7_turns cX7_turns 4 (some .boolean) 2 := ⟨List.mem_of_getElem? (i := 335) rfl, List.mem_of_getElem? (i := 336) rfl, List.mem_of_getElem? (i := 5) rfl, List.mem_of_getElem? (i := 337) rfl, by decide +kernel, by decide +kernel, by decide +kernel⟩
set_option maxRecDepth 20000 in
theorem qyX7_steps : sm_yV yX7_steps cX7_steps 2 none 1 := ⟨List.mem_of_getElem? (i := 340) rfl, List.mem_of_getElem? (i := 341) rfl, List.mem_of_getElem? (i := 5) rfl, List.mem_of_getElem? (i := 342) rfl, by decide +kernel, by decide +kernel, by decide +kernel⟩
set_option maxRecDepth 20000 in
theorem qyX7_exchanges : sm_yV yX7_exchanges cX7_exchanges 2 none 0 := ⟨List.mem_of_getElem? (i := 344) rfl, List.mem_of_getElem? (i := 345) rfl, List.mem_of_getElem? (i := 5) rfl, List.mem_of_getElem? (i := 346) rfl, by decide +kernel, by decide +kernel, by decide +kernel⟩
set_option maxRecDepth 20000 in
theorem qyX7_areWithin : sm_yV yX7_areWithin cX7_areWithin 2 (some .boolean) 1 := ⟨List.mem_of_getElem? (i := 348) rfl, List.mem_of_getElem? (i := 349) rfl, List.mem_of_getElem? (i := 5) rfl, List.mem_of_getElem? (i := 350) rfl, by decide +kernel, by decide +kernel, by decide +kernel⟩
set_option maxRecDepth 20000 in
theorem qyX6_switchOver : sm_yV yX6_switchOver cX6_switchOver 1 (some .int) 0 := ⟨List.mem_of_getElem? (i := 355) rfl, List.mem_of_getElem? (i := 356) rfl, List.mem_of_getElem? (i := 2) rfl, List.mem_of_getElem? (i := 357) rfl, by decide +kernel, by decide +kernel, by decide +kernel⟩
set_option maxRecDepth 20000 in
theorem qyX5_isAnyAside : sm_yV yX5_isAnyAside cX5_isAnyAside 1 (some .boolean) 0 := ⟨List.mem_of_getElem? (i := 359) rfl, List.mem_of_getElem? (i := 360) rfl, List.mem_of_getElem? (i := 24) rfl, List.mem_of_getElem? (i := 361) rfl, by decide +kernel, by decide +kernel, by decide +kernel⟩
set_option maxRecDepth 20000 in
theorem qyX5_count : sm_yV yX5_count cX5_count 4 (some .int) 1 := ⟨List.mem_of_getElem? (i := 363) rfl, List.mem_of_getElem? (i := 364) rfl, List.mem_of_getElem? (i := 24) rfl, List.mem_of_getElem? (i := 365) rfl, by decide +kernel, by decide +kernel, by decide +kernel⟩
set_option maxRecDepth 20000 in
theorem qyX6_areSumsSame : sm_yV yX6_areSumsSame cX6_areSumsSame 3 (some .boolean) 2 := ⟨List.mem_of_getElem? (i := 367) rfl, List.mem_of_getElem? (i := 368) rfl, List.mem_of_getElem? (i := 2) rfl, List.mem_of_getElem? (i := 369) rfl, by decide +kernel, by decide +kernel, by decide +kernel⟩
set_option maxRecDepth 20000 in
theorem qyX6_sumOfRange : sm_yV yX6_sumOfRange cX6_sumOfRange 7 (some .long) 3 := ⟨List.mem_of_getElem? (i := 371) rfl, List.mem_of_getElem? (i := 372) rfl, List.mem_of_getElem? (i := 2) rfl, List.mem_of_getElem? (i := 373) rfl, by decide +kernel, by decide +kernel, by decide +kernel⟩
set_option maxRecDepth 20000 in
theorem qyX6_sumOfEntry : sm_yV yX6_sumOfEntry cX6_sumOfEntry 2 (some .long) 1 := ⟨List.mem_of_getElem? (i := 375) rfl, List.mem_of_getElem? (i := 376) rfl, List.mem_of_getElem? (i := 2) rfl, List.mem_of_getElem? (i := 377) rfl, by decide +kernel, by decide +kernel, by decide +kernel⟩
set_option maxRecDepth 20000 in
theorem qyX5_hasEntry : sm_yV yX5_hasEntry cX5_hasEntry 2 (some .boolean) 1 := ⟨List.mem_of_getElem? (i := 379) rfl, List.mem_of_getElem? (i := 380) rfl, List.mem_of_getElem? (i := 24) rfl, List.mem_of_getElem? (i := 381) rfl, by decide +kernel, by decide +kernel, by decide +kernel⟩
set_option maxRecDepth 20000 in
theorem qyX5_number : sm_yV yX5_number cX5_number 3 (some .int) 2 := ⟨List.mem_of_getElem? (i := 383) rfl, List.mem_of_getElem? (i := 384) rfl, List.mem_of_getElem? (i := 24) rfl, List.mem_of_getElem? (i := 385) rfl, by decide +kernel, by decide +kernel, by decide +kernel⟩
set_option maxRecDepth 20000 in
theorem qyX6_sumOfKey : sm_yS yX6_sumOfKey cX6_sumOfKey 3 (some .long) 3 := ⟨List.mem_of_getElem? (i := 387) rfl, List.mem_of_getElem? (i := 2) rfl, List.mem_of_getElem? (i := 388) rfl, by decide +kernel, by decide +kernel, by decide +kernel⟩
set_option maxRecDepth 20000 in
theorem qyX6_sumOfRow : sm_yV yX6_sumOfRow cX6_sumOfRow 2 (some .long) 1 := ⟨List.mem_of_getElem? (i := 392) rfl, List.mem_of_getElem? (i := 393) rfl, List.mem_of_getElem? (i := 2) rfl, List.mem_of_getElem? (i := 394) rfl, by decide +kernel, by decide +kernel, by decide +kernel⟩
set_option maxRecDepth 20000 in
theorem qyX6_turnRow : sm_yV yX6_turnRow cX6_turnRow 2 (some .boolean) 1 := ⟨List.mem_of_getElem? (i := 396) rfl, List.mem_of_getElem? (i := 397) rfl, List.mem_of_getElem? (i := 2) rfl, List.mem_of_getElem? (i := 398) rfl, by decide +kernel, by decide +kernel, by decide +kernel⟩
set_option maxRecDepth 20000 in
theorem qyX3_has : sm_yV yX3_has cX3_has 2 (some .boolean) 1 := ⟨List.mem_of_getElem? (i := 400) rfl, List.mem_of_getElem? (i := 401) rfl, List.mem_of_getElem? (i := 20) rfl, List.mem_of_getElem? (i := 402) rfl, by decide +kernel, by decide +kernel, by decide +kernel⟩
set_option maxRecDepth 20000 in
theorem qyX3_number : sm_yV yX3_number cX3_number 3 (some .int) 2 := ⟨List.mem_of_getElem? (i := 404) rfl, List.mem_of_getElem? (i := 405) rfl, List.mem_of_getElem? (i := 20) rfl, List.mem_of_getElem? (i := 406) rfl, by decide +kernel, by decide +kernel, by decide +kernel⟩
set_option maxRecDepth 20000 in
theorem qyX5_countEntries : sm_yV yX5_countEntries cX5_countEntries 1 (some .int) 0 := ⟨List.mem_of_getElem? (i := 408) rfl, List.mem_of_getElem? (i := 409) rfl, List.mem_of_getElem? (i := 24) rfl, List.mem_of_getElem? (i := 410) rfl, by decide +kernel, by decide +kernel, by decide +kernel⟩
set_option maxRecDepth 20000 in
theorem qyX7_switchOver : sm_yV yX7_switchOver cX7_switchOver 1 (some .int) 0 := ⟨List.mem_of_getElem? (i := 412) rfl, List.mem_of_getElem? (i := 413) rfl, List.mem_of_getElem? (i := 5) rfl, List.mem_of_getElem? (i := 414) rfl, by decide +kernel, by decide +kernel, by decide +kernel⟩
set_option maxRecDepth 20000 in
theorem qyX7_manyHeld : sm_yV yX7_manyHeld cX7_manyHeld 4 (some .int) 1 := ⟨List.mem_of_getElem? (i := 416) rfl, List.mem_of_getElem? (i := 417) rfl, List.mem_of_getElem? (i := 5) rfl, List.mem_of_getElem? (i := 418) rfl, by decide +kernel, by decide +kernel, by decide +kernel⟩
set_option maxRecDepth 20000 in
theorem qyX7_sumOf : sm_yV yX7_sumOf cX7_sumOf 7 (some .long) 3 := ⟨List.mem_of_getElem? (i := 420) rfl, List.mem_of_getElem? (i := 421) rfl, List.mem_of_getElem? (i := 5) rfl, List.mem_of_getElem? (i := 422) rfl, by decide +kernel, by decide +kernel, by decide +kernel⟩
set_option maxRecDepth 20000 in
theorem qyX6_goBack : sm_yV yX6_goBack cX6_goBack 4 (some .int) 0 := ⟨List.mem_of_getElem? (i := 429) rfl, List.mem_of_getElem? (i := 430) rfl, List.mem_of_getElem? (i := 2) rfl, List.mem_of_getElem? (i := 431) rfl, by decide +kernel, by decide +kernel, by decide +kernel⟩
set_option maxRecDepth 20000 in
theorem qyX6_canComeBack : sm_yV yX6_canComeBack cX6_canComeBack 4 (some .boolean) 0 := ⟨List.mem_of_getElem? (i := 433) rfl, List.mem_of_getElem? (i := 434) rfl, List.mem_of_getElem? (i := 2) rfl, List.mem_of_getElem? (i := 435) rfl, by decide +kernel, by decide +kernel, by decide +kernel⟩
set_option maxRecDepth 20000 in
theorem qyX6_turnEntryBack : sm_yV yX6_turnEntryBack cX6_turnEntryBack 2 (some .boolean) 1 := ⟨List.mem_of_getElem? (i := 437) rfl, List.mem_of_getElem? (i := 438) rfl, List.mem_of_getElem? (i := 2) rfl, List.mem_of_getElem? (i := 439) rfl, by decide +kernel, by decide +kernel, by decide +kernel⟩
set_option maxRecDepth 20000 in
theorem qyX4_turnBack : sm_yV yX4_turnBack cX4_turnBack 3 (some .boolean) 1 := ⟨List.mem_of_getElem? (i := 441) rfl, List.mem_of_getElem? (i := 442) rfl, List.mem_of_getElem? (i := 16) rfl, List.mem_of_getElem? (i := 443) rfl, by decide +kernel, by decide +kernel, by decide +kernel⟩
set_option maxRecDepth 20000 in
theorem qyX0_stepBack : sm_yV yX0_stepBack cX0_stepBack 4 (some .boolean) 2 := ⟨List.mem_of_getElem? (i := 445) rfl, List.mem_of_getElem? (i := 446) rfl, List.mem_of_getElem? (i := 37) rfl, List.mem_of_getElem? (i := 447) rfl, by decide +kernel, by decide +kernel, by decide +kernel⟩
set_option maxRecDepth 20000 in
theorem qyX6_comeBack : sm_yV yX6_comeBack cX6_comeBack 5 (some .boolean) 1 := ⟨List.mem_of_getElem? (i := 449) rfl, List.mem_of_getElem? (i := 450) rfl, List.mem_of_getElem? (i := 2) rfl, List.mem_of_getElem? (i := 451) rfl, by decide +kernel, by decide +kernel, by decide +kernel⟩
set_option maxRecDepth 20000 in
theorem qyX3_remove : sm_yV yX3_remove cX3_remove 2 none 1 := ⟨List.mem_of_getElem? (i := 453) rfl, List.mem_of_getElem? (i := 454) rfl, List.mem_of_getElem? (i := 20) rfl, List.mem_of_getElem? (i := 455) rfl, by decide +kernel, by decide +kernel, by decide +kernel⟩
set_option maxRecDepth 20000 in
theorem qyX3_holds : sm_yV yX3_holds cX3_holds 4 (some .boolean) 3 := ⟨List.mem_of_getElem? (i := 457) rfl, List.mem_of_getElem? (i := 458) rfl, List.mem_of_getElem? (i := 20) rfl, List.mem_of_getElem? (i := 459) rfl, by decide +kernel, by decide +kernel, by decide +kernel⟩
set_option maxRecDepth 20000 in
theorem qyX3_put : sm_yV yX3_put cX3_put 4 none 3 := ⟨List.mem_of_getElem? (i := 463) rfl, List.mem_of_getElem? (i := 464) rfl, List.mem_of_getElem? (i := 20) rfl, List.mem_of_getElem? (i := 465) rfl, by decide +kernel, by decide +kernel, by decide +kernel⟩
set_option maxRecDepth 20000 in
theorem qyX1_clear : sm_yV yX1_clear cX1_clear 1 none 0 := ⟨List.mem_of_getElem? (i := 467) rfl, List.mem_of_getElem? (i := 468) rfl, List.mem_of_getElem? (i := 28) rfl, List.mem_of_getElem? (i := 469) rfl, by decide +kernel, by decide +kernel, by decide +kernel⟩
set_option maxRecDepth 20000 in
theorem qyX7_goBack : sm_yV yX7_goBack cX7_goBack 3 (some .int) 0 := ⟨List.mem_of_getElem? (i := 471) rfl, List.mem_of_getElem? (i := 472) rfl, List.mem_of_getElem? (i := 5) rfl, List.mem_of_getElem? (i := 473) rfl, by decide +kernel, by decide +kernel, by decide +kernel⟩
set_option maxRecDepth 20000 in
theorem qyX7_canGoBack : sm_yV yX7_canGoBack cX7_canGoBack 2 (some .boolean) 0 := ⟨List.mem_of_getElem? (i := 475) rfl, List.mem_of_getElem? (i := 476) rfl, List.mem_of_getElem? (i := 5) rfl, List.mem_of_getElem? (i := 477) rfl, by decide +kernel, by decide +kernel, by decide +kernel⟩
set_option maxRecDepth 20000 in
theorem qyX7_turnsBack : sm_yV yX7_turnsBack cX7_turnsBack 4 (some .boolean) 2 := ⟨List.mem_of_getElem? (i := 479) rfl, List.mem_of_getElem? (i := 480) rfl, List.mem_of_getElem? (i := 5) rfl, List.mem_of_getElem? (i := 481) rfl, by decide +kernel, by decide +kernel, by decide +kernel⟩
set_option maxRecDepth 20000 in
theorem qyX7_goesBack : sm_yV yX7_goesBack cX7_goesBack 4 (some .boolean) 1 := ⟨List.mem_of_getElem? (i := 483) rfl, List.mem_of_getElem? (i := 484) rfl, List.mem_of_getElem? (i := 5) rfl, List.mem_of_getElem? (i := 485) rfl, by decide +kernel, by decide +kernel, by decide +kernel⟩
set_option maxRecDepth 20000 in
theorem qyX6_end : sm_yV yX6_end cX6_end 1 (some .int) 0 := ⟨List.mem_of_getElem? (i := 490) rfl, List.mem_of_getElem? (i := 491) rfl, List.mem_of_getElem? (i := 2) rfl, List.mem_of_getElem? (i := 492) rfl, by decide +kernel, by decide +kernel, by decide +kernel⟩
set_option maxRecDepth 20000 in
theorem qyX7_end : sm_yV yX7_end cX7_end 1 (some .int) 0 := ⟨List.mem_of_getElem? (i := 494) rfl, List.mem_of_getElem? (i := 495) rfl, List.mem_of_getElem? (i := 5) rfl, List.mem_of_getElem? (i := 496) rfl, by decide +kernel, by decide +kernel, by decide +kernel⟩
set_option maxRecDepth 20000 in
theorem qyX6_write : sm_yV yX6_write cX6_write 6 (some .boolean) 3 := ⟨List.mem_of_getElem? (i := 501) rfl, List.mem_of_getElem? (i := 502) rfl, List.mem_of_getElem? (i := 2) rfl, List.mem_of_getElem? (i := 503) rfl, by decide +kernel, by decide +kernel, by decide +kernel⟩
set_option maxRecDepth 20000 in
theorem qyX6_isTargetLive : sm_yV yX6_isTargetLive cX6_isTargetLive 1 (some .boolean) 0 := ⟨List.mem_of_getElem? (i := 505) rfl, List.mem_of_getElem? (i := 506) rfl, List.mem_of_getElem? (i := 2) rfl, List.mem_of_getElem? (i := 507) rfl, by decide +kernel, by decide +kernel, by decide +kernel⟩
set_option maxRecDepth 20000 in
theorem qyX6_isLogFull : sm_yV yX6_isLogFull cX6_isLogFull 1 (some .boolean) 0 := ⟨List.mem_of_getElem? (i := 511) rfl, List.mem_of_getElem? (i := 512) rfl, List.mem_of_getElem? (i := 2) rfl, List.mem_of_getElem? (i := 513) rfl, by decide +kernel, by decide +kernel, by decide +kernel⟩
set_option maxRecDepth 20000 in
theorem qyX1_isFull : sm_yV yX1_isFull cX1_isFull 1 (some .boolean) 0 := ⟨List.mem_of_getElem? (i := 515) rfl, List.mem_of_getElem? (i := 516) rfl, List.mem_of_getElem? (i := 28) rfl, List.mem_of_getElem? (i := 517) rfl, by decide +kernel, by decide +kernel, by decide +kernel⟩
set_option maxRecDepth 20000 in
theorem qyX6_isLive : sm_yV yX6_isLive cX6_isLive 2 (some .boolean) 1 := ⟨List.mem_of_getElem? (i := 519) rfl, List.mem_of_getElem? (i := 520) rfl, List.mem_of_getElem? (i := 2) rfl, List.mem_of_getElem? (i := 521) rfl, by decide +kernel, by decide +kernel, by decide +kernel⟩
set_option maxRecDepth 20000 in
theorem qyX1_appendRow : sm_yV yX1_appendRow cX1_appendRow 4 none 3 := ⟨List.mem_of_getElem? (i := 523) rfl, List.mem_of_getElem? (i := 524) rfl, List.mem_of_getElem? (i := 28) rfl, List.mem_of_getElem? (i := 525) rfl, by decide +kernel, by decide +kernel, by decide +kernel⟩
set_option maxRecDepth 20000 in
theorem qyX1_append : sm_yV yX1_append cX1_append 5 none 4 := ⟨List.mem_of_getElem? (i := 527) rfl, List.mem_of_getElem? (i := 528) rfl, List.mem_of_getElem? (i := 28) rfl, List.mem_of_getElem? (i := 529) rfl, by decide +kernel, by decide +kernel, by decide +kernel⟩
set_option maxRecDepth 20000 in
theorem qyX7_write : sm_yV yX7_write cX7_write 6 (some .boolean) 3 := ⟨List.mem_of_getElem? (i := 531) rfl, List.mem_of_getElem? (i := 532) rfl, List.mem_of_getElem? (i := 5) rfl, List.mem_of_getElem? (i := 533) rfl, by decide +kernel, by decide +kernel, by decide +kernel⟩
set_option maxRecDepth 20000 in
theorem qyX7_isByTarget : sm_yV yX7_isByTarget cX7_isByTarget 1 (some .boolean) 0 := ⟨List.mem_of_getElem? (i := 535) rfl, List.mem_of_getElem? (i := 536) rfl, List.mem_of_getElem? (i := 5) rfl, List.mem_of_getElem? (i := 537) rfl, by decide +kernel, by decide +kernel, by decide +kernel⟩
set_option maxRecDepth 20000 in
theorem qyX7_isKey : sm_yS yX7_isKey cX7_isKey 1 (some .boolean) 1 := ⟨List.mem_of_getElem? (i := 539) rfl, List.mem_of_getElem? (i := 5) rfl, List.mem_of_getElem? (i := 540) rfl, by decide +kernel, by decide +kernel, by decide +kernel⟩
set_option maxRecDepth 20000 in
theorem qyX7_isLogFull : sm_yV yX7_isLogFull cX7_isLogFull 1 (some .boolean) 0 := ⟨List.mem_of_getElem? (i := 542) rfl, List.mem_of_getElem? (i := 543) rfl, List.mem_of_getElem? (i := 5) rfl, List.mem_of_getElem? (i := 544) rfl, by decide +kernel, by decide +kernel, by decide +kernel⟩
set_option maxRecDepth 20000 in
theorem qyX7_writesTarget : sm_yV yX7_writesTarget cX7_writesTarget 5 (some .boolean) 3 := ⟨List.mem_of_getElem? (i := 546) rfl, List.mem_of_getElem? (i := 547) rfl, List.mem_of_getElem? (i := 5) rfl, List.mem_of_getElem? (i := 548) rfl, by decide +kernel, by decide +kernel, by decide +kernel⟩
set_option maxRecDepth 20000 in
theorem qyX7_names : sm_yV yX7_names cX7_names 2 none 1 := ⟨List.mem_of_getElem? (i := 550) rfl, List.mem_of_getElem? (i := 551) rfl, List.mem_of_getElem? (i := 5) rfl, List.mem_of_getElem? (i := 552) rfl, by decide +kernel, by decide +kernel, by decide +kernel⟩
set_option maxRecDepth 20000 in
theorem qyX7_logs : sm_yV yX7_logs cX7_logs 5 none 4 := ⟨List.mem_of_getElem? (i := 554) rfl, List.mem_of_getElem? (i := 555) rfl, List.mem_of_getElem? (i := 5) rfl, List.mem_of_getElem? (i := 556) rfl, by decide +kernel, by decide +kernel, by decide +kernel⟩
set_option maxRecDepth 20000 in
theorem qyX6_delete : sm_yV yX6_delete cX6_delete 2 (some .boolean) 1 := ⟨List.mem_of_getElem? (i := 561) rfl, List.mem_of_getElem? (i := 562) rfl, List.mem_of_getElem? (i := 2) rfl, List.mem_of_getElem? (i := 563) rfl, by decide +kernel, by decide +kernel, by decide +kernel⟩
set_option maxRecDepth 20000 in
theorem qyX6_checkKey : sm_yS yX6_checkKey cX6_checkKey 1 none 1 := ⟨List.mem_of_getElem? (i := 565) rfl, List.mem_of_getElem? (i := 2) rfl, List.mem_of_getElem? (i := 566) rfl, by decide +kernel, by decide +kernel, by decide +kernel⟩
set_option maxRecDepth 20000 in
theorem qyX1_appendDeletion : sm_yV yX1_appendDeletion cX1_appendDeletion 2 none 1 := ⟨List.mem_of_getElem? (i := 568) rfl, List.mem_of_getElem? (i := 569) rfl, List.mem_of_getElem? (i := 28) rfl, List.mem_of_getElem? (i := 570) rfl, by decide +kernel, by decide +kernel, by decide +kernel⟩
set_option maxRecDepth 20000 in
theorem qyX7_delete : sm_yV yX7_delete cX7_delete 3 (some .boolean) 1 := ⟨List.mem_of_getElem? (i := 572) rfl, List.mem_of_getElem? (i := 573) rfl, List.mem_of_getElem? (i := 5) rfl, List.mem_of_getElem? (i := 574) rfl, by decide +kernel, by decide +kernel, by decide +kernel⟩
set_option maxRecDepth 20000 in
theorem qyX6_read : sm_yV yX6_read cX6_read 3 (some .int) 2 := ⟨List.mem_of_getElem? (i := 580) rfl, List.mem_of_getElem? (i := 581) rfl, List.mem_of_getElem? (i := 2) rfl, List.mem_of_getElem? (i := 582) rfl, by decide +kernel, by decide +kernel, by decide +kernel⟩
set_option maxRecDepth 20000 in
theorem qyX7_read : sm_yV yX7_read cX7_read 3 (some .int) 2 := ⟨List.mem_of_getElem? (i := 586) rfl, List.mem_of_getElem? (i := 587) rfl, List.mem_of_getElem? (i := 5) rfl, List.mem_of_getElem? (i := 588) rfl, by decide +kernel, by decide +kernel, by decide +kernel⟩
set_option maxRecDepth 20000 in
theorem qyX6_nextNumber : sm_yV yX6_nextNumber cX6_nextNumber 1 (some .int) 0 := ⟨List.mem_of_getElem? (i := 593) rfl, List.mem_of_getElem? (i := 594) rfl, List.mem_of_getElem? (i := 2) rfl, List.mem_of_getElem? (i := 595) rfl, by decide +kernel, by decide +kernel, by decide +kernel⟩
set_option maxRecDepth 20000 in
theorem qyX7_nextNumber : sm_yV yX7_nextNumber cX7_nextNumber 1 (some .int) 0 := ⟨List.mem_of_getElem? (i := 597) rfl, List.mem_of_getElem? (i := 598) rfl, List.mem_of_getElem? (i := 5) rfl, List.mem_of_getElem? (i := 599) rfl, by decide +kernel, by decide +kernel, by decide +kernel⟩
set_option maxRecDepth 20000 in
theorem qyX6_readPart : sm_yV yX6_readPart cX6_readPart 2 (some .int) 1 := ⟨List.mem_of_getElem? (i := 604) rfl, List.mem_of_getElem? (i := 605) rfl, List.mem_of_getElem? (i := 2) rfl, List.mem_of_getElem? (i := 606) rfl, by decide +kernel, by decide +kernel, by decide +kernel⟩
set_option maxRecDepth 20000 in
theorem qyX2_take : sm_yV yX2_take cX2_take 7 (some .int) 3 := ⟨List.mem_of_getElem? (i := 608) rfl, List.mem_of_getElem? (i := 609) rfl, List.mem_of_getElem? (i := 33) rfl, List.mem_of_getElem? (i := 610) rfl, by decide +kernel, by decide +kernel, by decide +kernel⟩
set_option maxRecDepth 20000 in
theorem qyX2_isPart : sm_yS yX2_isPart cX2_isPart 1 (some .boolean) 1 := ⟨List.mem_of_getElem? (i := 618) rfl, List.mem_of_getElem? (i := 33) rfl, List.mem_of_getElem? (i := 619) rfl, by decide +kernel, by decide +kernel, by decide +kernel⟩
set_option maxRecDepth 20000 in
theorem qyX7_readPart : sm_yV yX7_readPart cX7_readPart 5 (some .int) 1 := ⟨List.mem_of_getElem? (i := 621) rfl, List.mem_of_getElem? (i := 622) rfl, List.mem_of_getElem? (i := 5) rfl, List.mem_of_getElem? (i := 623) rfl, by decide +kernel, by decide +kernel, by decide +kernel⟩
set_option maxRecDepth 20000 in
theorem qyX7_freePart : sm_yV yX7_freePart cX7_freePart 2 (some .int) 0 := ⟨List.mem_of_getElem? (i := 625) rfl, List.mem_of_getElem? (i := 626) rfl, List.mem_of_getElem? (i := 5) rfl, List.mem_of_getElem? (i := 627) rfl, by decide +kernel, by decide +kernel, by decide +kernel⟩
set_option maxRecDepth 20000 in
theorem qyX6_putDown : sm_yV yX6_putDown cX6_putDown 6 (some .int) 1 := ⟨List.mem_of_getElem? (i := 633) rfl, List.mem_of_getElem? (i := 634) rfl, List.mem_of_getElem? (i := 2) rfl, List.mem_of_getElem? (i := 635) rfl, by decide +kernel, by decide +kernel, by decide +kernel⟩
set_option maxRecDepth 20000 in
theorem qyX2_isWaiting : sm_yV yX2_isWaiting cX2_isWaiting 2 (some .boolean) 1 := ⟨List.mem_of_getElem? (i := 639) rfl, List.mem_of_getElem? (i := 640) rfl, List.mem_of_getElem? (i := 33) rfl, List.mem_of_getElem? (i := 641) rfl, by decide +kernel, by decide +kernel, by decide +kernel⟩
set_option maxRecDepth 20000 in
theorem qyX2_stampOf : sm_yV yX2_stampOf cX2_stampOf 2 (some .int) 1 := ⟨List.mem_of_getElem? (i := 643) rfl, List.mem_of_getElem? (i := 644) rfl, List.mem_of_getElem? (i := 33) rfl, List.mem_of_getElem? (i := 645) rfl, by decide +kernel, by decide +kernel, by decide +kernel⟩
set_option maxRecDepth 20000 in
theorem qyX2_endOf : sm_yV yX2_endOf cX2_endOf 2 (some .int) 1 := ⟨List.mem_of_getElem? (i := 647) rfl, List.mem_of_getElem? (i := 648) rfl, List.mem_of_getElem? (i := 33) rfl, List.mem_of_getElem? (i := 649) rfl, by decide +kernel, by decide +kernel, by decide +kernel⟩
set_option maxRecDepth 20000 in
theorem qyX2_lowOf : sm_yV yX2_lowOf cX2_lowOf 2 (some .int) 1 := ⟨List.mem_of_getElem? (i := 651) rfl, List.mem_of_getElem? (i := 652) rfl, List.mem_of_getElem? (i := 33) rfl, List.mem_of_getElem? (i := 653) rfl, by decide +kernel, by decide +kernel, by decide +kernel⟩
set_option maxRecDepth 20000 in
theorem qyX2_hasRow : sm_yV yX2_hasRow cX2_hasRow 2 (some .boolean) 1 := ⟨List.mem_of_getElem? (i := 655) rfl, List.mem_of_getElem? (i := 656) rfl, List.mem_of_getElem? (i := 33) rfl, List.mem_of_getElem? (i := 657) rfl, by decide +kernel, by decide +kernel, by decide +kernel⟩
set_option maxRecDepth 20000 in
theorem qyX2_number : sm_yV yX2_number cX2_number 3 (some .int) 2 := ⟨List.mem_of_getElem? (i := 659) rfl, List.mem_of_getElem? (i := 660) rfl, List.mem_of_getElem? (i := 33) rfl, List.mem_of_getElem? (i := 661) rfl, by decide +kernel, by decide +kernel, by decide +kernel⟩
set_option maxRecDepth 20000 in
theorem qyX2_finish : sm_yV yX2_finish cX2_finish 2 none 1 := ⟨List.mem_of_getElem? (i := 663) rfl, List.mem_of_getElem? (i := 664) rfl, List.mem_of_getElem? (i := 33) rfl, List.mem_of_getElem? (i := 665) rfl, by decide +kernel, by decide +kernel, by decide +kernel⟩
set_option maxRecDepth 20000 in
theorem qyX7_putDown : sm_yV yX7_putDown cX7_putDown 5 (some .int) 1 := ⟨List.mem_of_getElem? (i := 668) rfl, List.mem_of_getElem? (i := 669) rfl, List.mem_of_getElem? (i := 5) rfl, List.mem_of_getElem? (i := 670) rfl, by decide +kernel, by decide +kernel, by decide +kernel⟩
set_option maxRecDepth 20000 in
theorem qyX7_placeOf : sm_yV yX7_placeOf cX7_placeOf 3 (some .int) 1 := ⟨List.mem_of_getElem? (i := 672) rfl, List.mem_of_getElem? (i := 673) rfl, List.mem_of_getElem? (i := 5) rfl, List.mem_of_getElem? (i := 674) rfl, by decide +kernel, by decide +kernel, by decide +kernel⟩
set_option maxRecDepth 20000 in
theorem qyX6_follow : sm_yV yX6_follow cX6_follow 2 (some .int) 1 := ⟨List.mem_of_getElem? (i := 679) rfl, List.mem_of_getElem? (i := 680) rfl, List.mem_of_getElem? (i := 2) rfl, List.mem_of_getElem? (i := 681) rfl, by decide +kernel, by decide +kernel, by decide +kernel⟩
set_option maxRecDepth 20000 in
theorem qyX7_follow : sm_yV yX7_follow cX7_follow 3 (some .int) 1 := ⟨List.mem_of_getElem? (i := 683) rfl, List.mem_of_getElem? (i := 684) rfl, List.mem_of_getElem? (i := 5) rfl, List.mem_of_getElem? (i := 685) rfl, by decide +kernel, by decide +kernel, by decide +kernel⟩
set_option maxRecDepth 20000 in
theorem qyX6_left : sm_yV yX6_left cX6_left 1 (some .int) 0 := ⟨List.mem_of_getElem? (i := 687) rfl, List.mem_of_getElem? (i := 688) rfl, List.mem_of_getElem? (i := 2) rfl, List.mem_of_getElem? (i := 689) rfl, by decide +kernel, by decide +kernel, by decide +kernel⟩
set_option maxRecDepth 20000 in
theorem qyX7_left : sm_yV yX7_left cX7_left 1 (some .int) 0 := ⟨List.mem_of_getElem? (i := 691) rfl, List.mem_of_getElem? (i := 692) rfl, List.mem_of_getElem? (i := 5) rfl, List.mem_of_getElem? (i := 693) rfl, by decide +kernel, by decide +kernel, by decide +kernel⟩
set_option maxRecDepth 20000 in
theorem qyX7_plain : sm_yV yX7_plain cX7_plain 2 (some .int) 1 := ⟨List.mem_of_getElem? (i := 695) rfl, List.mem_of_getElem? (i := 696) rfl, List.mem_of_getElem? (i := 5) rfl, List.mem_of_getElem? (i := 697) rfl, by decide +kernel, by decide +kernel, by decide +kernel⟩
set_option maxRecDepth 20000 in
theorem qyX6_behind : sm_yV yX6_behind cX6_behind 1 (some .int) 0 := ⟨List.mem_of_getElem? (i := 699) rfl, List.mem_of_getElem? (i := 700) rfl, List.mem_of_getElem? (i := 2) rfl, List.mem_of_getElem? (i := 701) rfl, by decide +kernel, by decide +kernel, by decide +kernel⟩
set_option maxRecDepth 20000 in
theorem qyX7_behind : sm_yV yX7_behind cX7_behind 1 (some .int) 0 := ⟨List.mem_of_getElem? (i := 703) rfl, List.mem_of_getElem? (i := 704) rfl, List.mem_of_getElem? (i := 5) rfl, List.mem_of_getElem? (i := 705) rfl, by decide +kernel, by decide +kernel, by decide +kernel⟩
set_option maxRecDepth 20000 in
theorem qyX6_parts : sm_yV yX6_parts cX6_parts 1 (some .int) 0 := ⟨List.mem_of_getElem? (i := 707) rfl, List.mem_of_getElem? (i := 708) rfl, List.mem_of_getElem? (i := 2) rfl, List.mem_of_getElem? (i := 709) rfl, by decide +kernel, by decide +kernel, by decide +kernel⟩
set_option maxRecDepth 20000 in
theorem qyX7_parts : sm_yV yX7_parts cX7_parts 1 (some .int) 0 := ⟨List.mem_of_getElem? (i := 711) rfl, List.mem_of_getElem? (i := 712) rfl, List.mem_of_getElem? (i := 5) rfl, List.mem_of_getElem? (i := 713) rfl, by decide +kernel, by decide +kernel, by decide +kernel⟩
set_option maxRecDepth 20000 in
theorem qyX6_state : sm_yV yX6_state cX6_state 2 (some .char) 1 := ⟨List.mem_of_getElem? (i := 718) rfl, List.mem_of_getElem? (i := 719) rfl, List.mem_of_getElem? (i := 2) rfl, List.mem_of_getElem? (i := 720) rfl, by decide +kernel, by decide +kernel, by decide +kernel⟩
set_option maxRecDepth 20000 in
theorem qyX6_stateOf : sm_yV yX6_stateOf cX6_stateOf 3 (some .char) 1 := ⟨List.mem_of_getElem? (i := 722) rfl, List.mem_of_getElem? (i := 723) rfl, List.mem_of_getElem? (i := 2) rfl, List.mem_of_getElem? (i := 724) rfl, by decide +kernel, by decide +kernel, by decide +kernel⟩
set_option maxRecDepth 20000 in
theorem qyX5_isAside : sm_yV yX5_isAside cX5_isAside 2 (some .boolean) 1 := ⟨List.mem_of_getElem? (i := 726) rfl, List.mem_of_getElem? (i := 727) rfl, List.mem_of_getElem? (i := 24) rfl, List.mem_of_getElem? (i := 728) rfl, by decide +kernel, by decide +kernel, by decide +kernel⟩
set_option maxRecDepth 20000 in
theorem qyX6_isEntryAsCouple : sm_yV yX6_isEntryAsCouple cX6_isEntryAsCouple 2 (some .boolean) 1 := ⟨List.mem_of_getElem? (i := 730) rfl, List.mem_of_getElem? (i := 731) rfl, List.mem_of_getElem? (i := 2) rfl, List.mem_of_getElem? (i := 732) rfl, by decide +kernel, by decide +kernel, by decide +kernel⟩
set_option maxRecDepth 20000 in
theorem qyX7_state : sm_yV yX7_state cX7_state 2 (some .char) 1 := ⟨List.mem_of_getElem? (i := 734) rfl, List.mem_of_getElem? (i := 735) rfl, List.mem_of_getElem? (i := 5) rfl, List.mem_of_getElem? (i := 736) rfl, by decide +kernel, by decide +kernel, by decide +kernel⟩
set_option maxRecDepth 20000 in
theorem qyX7_stateOf : sm_yV yX7_stateOf cX7_stateOf 3 (some .char) 1 := ⟨List.mem_of_getElem? (i := 738) rfl, List.mem_of_getElem? (i := 739) rfl, List.mem_of_getElem? (i := 5) rfl, List.mem_of_getElem? (i := 740) rfl, by decide +kernel, by decide +kernel, by decide +kernel⟩
set_option maxRecDepth 20000 in
theorem qyX6_stamp : sm_yV yX6_stamp cX6_stamp 2 (some .int) 1 := ⟨List.mem_of_getElem? (i := 745) rfl, List.mem_of_getElem? (i := 746) rfl, List.mem_of_getElem? (i := 2) rfl, List.mem_of_getElem? (i := 747) rfl, by decide +kernel, by decide +kernel, by decide +kernel⟩
set_option maxRecDepth 20000 in
theorem qyX7_stamp : sm_yV yX7_stamp cX7_stamp 2 (some .int) 1 := ⟨List.mem_of_getElem? (i := 751) rfl, List.mem_of_getElem? (i := 752) rfl, List.mem_of_getElem? (i := 5) rfl, List.mem_of_getElem? (i := 753) rfl, by decide +kernel, by decide +kernel, by decide +kernel⟩
set_option maxRecDepth 20000 in
theorem qyX6_turned : sm_yV yX6_turned cX6_turned 3 (some .int) 2 := ⟨List.mem_of_getElem? (i := 758) rfl, List.mem_of_getElem? (i := 759) rfl, List.mem_of_getElem? (i := 2) rfl, List.mem_of_getElem? (i := 760) rfl, by decide +kernel, by decide +kernel, by decide +kernel⟩
set_option maxRecDepth 20000 in
theorem qyX7_turned : sm_yV yX7_turned cX7_turned 3 (some .int) 2 := ⟨List.mem_of_getElem? (i := 762) rfl, List.mem_of_getElem? (i := 763) rfl, List.mem_of_getElem? (i := 5) rfl, List.mem_of_getElem? (i := 764) rfl, by decide +kernel, by decide +kernel, by decide +kernel⟩
set_option maxRecDepth 20000 in
theorem qyX6_turnedBack : sm_yV yX6_turnedBack cX6_turnedBack 3 (some .int) 2 := ⟨List.mem_of_getElem? (i := 769) rfl, List.mem_of_getElem? (i := 770) rfl, List.mem_of_getElem? (i := 2) rfl, List.mem_of_getElem? (i := 771) rfl, by decide +kernel, by decide +kernel, by decide +kernel⟩
set_option maxRecDepth 20000 in
theorem qyX7_turnedBack : sm_yV yX7_turnedBack cX7_turnedBack 3 (some .int) 2 := ⟨List.mem_of_getElem? (i := 773) rfl, List.mem_of_getElem? (i := 774) rfl, List.mem_of_getElem? (i := 5) rfl, List.mem_of_getElem? (i := 775) rfl, by decide +kernel, by decide +kernel, by decide +kernel⟩
set_option maxRecDepth 20000 in
theorem qyX6_sum : sm_yV yX6_sum cX6_sum 4 (some .long) 3 := ⟨List.mem_of_getElem? (i := 780) rfl, List.mem_of_getElem? (i := 781) rfl, List.mem_of_getElem? (i := 2) rfl, List.mem_of_getElem? (i := 782) rfl, by decide +kernel, by decide +kernel, by decide +kernel⟩
set_option maxRecDepth 20000 in
theorem qyX6_checkRange : sm_yS yX6_checkRange cX6_checkRange 2 none 2 := ⟨List.mem_of_getElem? (i := 784) rfl, List.mem_of_getElem? (i := 2) rfl, List.mem_of_getElem? (i := 785) rfl, by decide +kernel, by decide +kernel, by decide +kernel⟩
set_option maxRecDepth 20000 in
theorem qyX7_sum : sm_yV yX7_sum cX7_sum 4 (some .long) 3 := ⟨List.mem_of_getElem? (i := 787) rfl, List.mem_of_getElem? (i := 788) rfl, List.mem_of_getElem? (i := 5) rfl, List.mem_of_getElem? (i := 789) rfl, by decide +kernel, by decide +kernel, by decide +kernel⟩
set_option maxRecDepth 20000 in
theorem qyX7_isRange : sm_yS yX7_isRange cX7_isRange 2 (some .boolean) 2 := ⟨List.mem_of_getElem? (i := 791) rfl, List.mem_of_getElem? (i := 5) rfl, List.mem_of_getElem? (i := 792) rfl, by decide +kernel, by decide +kernel, by decide +kernel⟩
set_option maxRecDepth 20000 in
theorem qyX6_firstUnlike : sm_yV yX6_firstUnlike cX6_firstUnlike 7 (some .int) 2 := ⟨List.mem_of_getElem? (i := 797) rfl, List.mem_of_getElem? (i := 798) rfl, List.mem_of_getElem? (i := 2) rfl, List.mem_of_getElem? (i := 799) rfl, by decide +kernel, by decide +kernel, by decide +kernel⟩
set_option maxRecDepth 20000 in
theorem qyX7_firstUnlike : sm_yV yX7_firstUnlike cX7_firstUnlike 6 (some .int) 2 := ⟨List.mem_of_getElem? (i := 801) rfl, List.mem_of_getElem? (i := 802) rfl, List.mem_of_getElem? (i := 5) rfl, List.mem_of_getElem? (i := 803) rfl, by decide +kernel, by decide +kernel, by decide +kernel⟩
set_option maxRecDepth 20000 in
theorem qyX7_areUnlike : sm_yV yX7_areUnlike cX7_areUnlike 3 (some .boolean) 2 := ⟨List.mem_of_getElem? (i := 805) rfl, List.mem_of_getElem? (i := 806) rfl, List.mem_of_getElem? (i := 5) rfl, List.mem_of_getElem? (i := 807) rfl, by decide +kernel, by decide +kernel, by decide +kernel⟩
set_option maxRecDepth 20000 in
theorem qyX6_compared : sm_yV yX6_compared cX6_compared 1 (some .int) 0 := ⟨List.mem_of_getElem? (i := 809) rfl, List.mem_of_getElem? (i := 810) rfl, List.mem_of_getElem? (i := 2) rfl, List.mem_of_getElem? (i := 811) rfl, by decide +kernel, by decide +kernel, by decide +kernel⟩
set_option maxRecDepth 20000 in
theorem qyX7_compared : sm_yV yX7_compared cX7_compared 1 (some .int) 0 := ⟨List.mem_of_getElem? (i := 813) rfl, List.mem_of_getElem? (i := 814) rfl, List.mem_of_getElem? (i := 5) rfl, List.mem_of_getElem? (i := 815) rfl, by decide +kernel, by decide +kernel, by decide +kernel⟩
set_option maxRecDepth 20000 in
theorem qyX6_goal : sm_yV yX6_goal cX6_goal 2 (some .char) 1 := ⟨List.mem_of_getElem? (i := 820) rfl, List.mem_of_getElem? (i := 821) rfl, List.mem_of_getElem? (i := 2) rfl, List.mem_of_getElem? (i := 822) rfl, by decide +kernel, by decide +kernel, by decide +kernel⟩
set_option maxRecDepth 20000 in
theorem qyX7_goal : sm_yV yX7_goal cX7_goal 2 (some .char) 1 := ⟨List.mem_of_getElem? (i := 824) rfl, List.mem_of_getElem? (i := 825) rfl, List.mem_of_getElem? (i := 5) rfl, List.mem_of_getElem? (i := 826) rfl, by decide +kernel, by decide +kernel, by decide +kernel⟩
set_option maxRecDepth 20000 in
theorem qyX6_movedShare : sm_yV yX6_movedShare cX6_movedShare 2 (some .float) 0 := ⟨List.mem_of_getElem? (i := 832) rfl, List.mem_of_getElem? (i := 833) rfl, List.mem_of_getElem? (i := 2) rfl, List.mem_of_getElem? (i := 834) rfl, by decide +kernel, by decide +kernel, by decide +kernel⟩
set_option maxRecDepth 20000 in
theorem qyX6_countMoved : sm_yV yX6_countMoved cX6_countMoved 3 (some .int) 0 := ⟨List.mem_of_getElem? (i := 838) rfl, List.mem_of_getElem? (i := 839) rfl, List.mem_of_getElem? (i := 2) rfl, List.mem_of_getElem? (i := 840) rfl, by decide +kernel, by decide +kernel, by decide +kernel⟩
set_option maxRecDepth 20000 in
theorem qyX7_movedShare : sm_yV yX7_movedShare cX7_movedShare 1 (some .float) 0 := ⟨List.mem_of_getElem? (i := 842) rfl, List.mem_of_getElem? (i := 843) rfl, List.mem_of_getElem? (i := 5) rfl, List.mem_of_getElem? (i := 844) rfl, by decide +kernel, by decide +kernel, by decide +kernel⟩
set_option maxRecDepth 20000 in
theorem qyX7_manyMoved : sm_yV yX7_manyMoved cX7_manyMoved 3 (some .int) 0 := ⟨List.mem_of_getElem? (i := 846) rfl, List.mem_of_getElem? (i := 847) rfl, List.mem_of_getElem? (i := 5) rfl, List.mem_of_getElem? (i := 848) rfl, by decide +kernel, by decide +kernel, by decide +kernel⟩
set_option maxRecDepth 20000 in
theorem qyX6_isAllMoved : sm_yV yX6_isAllMoved cX6_isAllMoved 2 (some .boolean) 0 := ⟨List.mem_of_getElem? (i := 850) rfl, List.mem_of_getElem? (i := 851) rfl, List.mem_of_getElem? (i := 2) rfl, List.mem_of_getElem? (i := 852) rfl, by decide +kernel, by decide +kernel, by decide +kernel⟩
set_option maxRecDepth 20000 in
theorem qyX7_isAllMoved : sm_yV yX7_isAllMoved cX7_isAllMoved 1 (some .boolean) 0 := ⟨List.mem_of_getElem? (i := 854) rfl, List.mem_of_getElem? (i := 855) rfl, List.mem_of_getElem? (i := 5) rfl, List.mem_of_getElem? (i := 856) rfl, by decide +kernel, by decide +kernel, by decide +kernel⟩
set_option maxRecDepth 20000 in
theorem qyX6_meanStamp : sm_yV yX6_meanStamp cX6_meanStamp 2 (some .double) 0 := ⟨List.mem_of_getElem? (i := 861) rfl, List.mem_of_getElem? (i := 862) rfl, List.mem_of_getElem? (i := 2) rfl, List.mem_of_getElem? (i := 863) rfl, by decide +kernel, by decide +kernel, by decide +kernel⟩
set_option maxRecDepth 20000 in
theorem qyX5_addStamps : sm_yV yX5_addStamps cX5_addStamps 3 (some .int) 0 := ⟨List.mem_of_getElem? (i := 865) rfl, List.mem_of_getElem? (i := 866) rfl, List.mem_of_getElem? (i := 24) rfl, List.mem_of_getElem? (i := 867) rfl, by decide +kernel, by decide +kernel, by decide +kernel⟩
set_option maxRecDepth 20000 in
theorem qyX7_meanStamp : sm_yV yX7_meanStamp cX7_meanStamp 4 (some .double) 0 := ⟨List.mem_of_getElem? (i := 869) rfl, List.mem_of_getElem? (i := 870) rfl, List.mem_of_getElem? (i := 5) rfl, List.mem_of_getElem? (i := 871) rfl, by decide +kernel, by decide +kernel, by decide +kernel⟩
