theorem gin_0 : ∀ w ∈ u_ws RX0 TX0 2, w ∈ GW := by
  intro w hw
  have h : (u_ws RX0 TX0 2).all (fun w => decide (w ∈ lw_tbl) && goodWord w) = true := by decide +kernel
  have := List.all_eq_true.mp h w hw
  simp only [Bool.and_eq_true, decide_eq_true_eq] at this
  exact List.mem_filter.mpr ⟨this.1, this.2⟩
theorem gin_1 : ∀ w ∈ u_ws RX1 TX1 3, w ∈ GW := by
  intro w hw
  have h : (u_ws RX1 TX1 3).all (fun w => decide (w ∈ lw_tbl) && goodWord w) = true := by decide +kernel
  have := List.all_eq_true.mp h w hw
  simp only [Bool.and_eq_true, decide_eq_true_eq] at this
  exact List.mem_filter.mpr ⟨this.1, this.2⟩
theorem gin_3 : ∀ w ∈ u_ws RX3 TX3 8, w ∈ GW := by
  intro w hw
  have h : (u_ws RX3 TX3 8).all (fun w => decide (w ∈ lw_tbl) && goodWord w) = true := by decide +kernel
  have := List.all_eq_true.mp h w hw
  simp only [Bool.and_eq_true, decide_eq_true_eq] at this
  exact List.mem_filter.mpr ⟨this.1, this.2⟩
theorem gin_4 : ∀ w ∈ u_ws RX4 TX4 2, w ∈ GW := by
  intro w hw
  have h : (u_ws RX4 TX4 2).all (fun w => decide (w ∈ lw_tbl) && goodWord w) = true := by decide +kernel
  have := List.all_eq_true.mp h w hw
  simp only [Bool.and_eq_true, decide_eq_true_eq] at this
  exact List.mem_filter.mpr ⟨this.1, this.2⟩
theorem gin_5 : ∀ w ∈ u_ws RX5 TX5 7, w ∈ GW := by
  intro w hw
  have h : (u_ws RX5 TX5 7).all (fun w => decide (w ∈ lw_tbl) && goodWord w) = true := by decide +kernel
  have := List.all_eq_true.mp h w hw
  simp only [Bool.and_eq_true, decide_eq_true_eq] at this
  exact List.mem_filter.mpr ⟨this.1, this.2⟩
theorem gin_6 : ∀ w ∈ u_ws RX6 TX6 7, w ∈ GW := by
  intro w hw
  have h : (u_ws RX6 TX6 7).all (fun w => decide (w ∈ lw_tbl) && goodWord w) = true := by decide +kernel
  have := List.all_eq_true.mp h w hw
  simp only [Bool.and_eq_true, decide_eq_true_eq] at this
  exact List.mem_filter.mpr ⟨this.1, this.2⟩
theorem gin_7 : ∀ w ∈ u_ws RX7 TX7 3, w ∈ GW := by
  intro w hw
  have h : (u_ws RX7 TX7 3).all (fun w => decide (w ∈ lw_tbl) && goodWord w) = true := by decide +kernel
  have := List.all_eq_true.mp h w hw
  simp only [Bool.and_eq_true, decide_eq_true_eq] at this
  exact List.mem_filter.mpr ⟨this.1, this.2⟩
theorem gin_8 : ∀ w ∈ u_ws RX8 TX8 4, w ∈ GW := by
  intro w hw
  have h : (u_ws RX8 TX8 4).all (fun w => decide (w ∈ lw_tbl) && goodWord w) = true := by decide +kernel
  have := List.all_eq_true.mp h w hw
  simp only [Bool.and_eq_true, decide_eq_true_eq] at this
  exact List.mem_filter.mpr ⟨this.1, this.2⟩
theorem gin_9 : ∀ w ∈ u_ws RX9 TX9 5, w ∈ GW := by
  intro w hw
  have h : (u_ws RX9 TX9 5).all (fun w => decide (w ∈ lw_tbl) && goodWord w) = true := by decide +kernel
  have := List.all_eq_true.mp h w hw
  simp only [Bool.and_eq_true, decide_eq_true_eq] at this
  exact List.mem_filter.mpr ⟨this.1, this.2⟩
theorem gin_10 : ∀ w ∈ u_ws RX10 TX10 13, w ∈ GW := by
  intro w hw
  have h : (u_ws RX10 TX10 13).all (fun w => decide (w ∈ lw_tbl) && goodWord w) = true := by decide +kernel
  have := List.all_eq_true.mp h w hw
  simp only [Bool.and_eq_true, decide_eq_true_eq] at this
  exact List.mem_filter.mpr ⟨this.1, this.2⟩
theorem gin_11 : ∀ w ∈ u_ws RX11 TX11 11, w ∈ GW := by
  intro w hw
  have h : (u_ws RX11 TX11 11).all (fun w => decide (w ∈ lw_tbl) && goodWord w) = true := by decide +kernel
  have := List.all_eq_true.mp h w hw
  simp only [Bool.and_eq_true, decide_eq_true_eq] at this
  exact List.mem_filter.mpr ⟨this.1, this.2⟩
theorem gin_12 : ∀ w ∈ u_ws RX12 TX12 43, w ∈ GW := by
  intro w hw
  have h : (u_ws RX12 TX12 43).all (fun w => decide (w ∈ lw_tbl) && goodWord w) = true := by decide +kernel
  have := List.all_eq_true.mp h w hw
  simp only [Bool.and_eq_true, decide_eq_true_eq] at this
  exact List.mem_filter.mpr ⟨this.1, this.2⟩
theorem gz_RX0 : Cond.initialized RX0 ∈ GW := GW_in 90 rfl rfl
theorem gz_RX1 : Cond.initialized RX1 ∈ GW := GW_in 91 rfl rfl
theorem gz_RX2 : Cond.initialized RX2 ∈ GW := GW_in 88 rfl rfl
theorem gz_RX3 : Cond.initialized RX3 ∈ GW := GW_in 82 rfl rfl
theorem gz_RX4 : Cond.initialized RX4 ∈ GW := GW_in 89 rfl rfl
theorem gz_RX5 : Cond.initialized RX5 ∈ GW := GW_in 83 rfl rfl
theorem gz_RX6 : Cond.initialized RX6 ∈ GW := GW_in 87 rfl rfl
theorem gz_RX7 : Cond.initialized RX7 ∈ GW := GW_in 92 rfl rfl
theorem gz_RX8 : Cond.initialized RX8 ∈ GW := GW_in 84 rfl rfl
theorem gz_RX9 : Cond.initialized RX9 ∈ GW := GW_in 86 rfl rfl
theorem gz_RX10 : Cond.initialized RX10 ∈ GW := GW_in 85 rfl rfl
theorem gz_RX11 : Cond.initialized RX11 ∈ GW := GW_in 81 rfl rfl
theorem gz_RX12 : Cond.initialized RX12 ∈ GW := GW_in 93 rfl rfl
theorem gz_RJ6 : Cond.initialized RJ6 ∈ GW := GW_in 99 rfl rfl
theorem gz_RJ9 : Cond.initialized RJ9 ∈ GW := GW_in 100 rfl rfl
theorem gz_RJ0 : Cond.initialized RJ0 ∈ GW := GW_in 94 rfl rfl
theorem gz_RJ1 : Cond.initialized RJ1 ∈ GW := GW_in 95 rfl rfl
theorem gz_RJ2 : Cond.initialized RJ2 ∈ GW := GW_in 97 rfl rfl
theorem gz_RJ10 : Cond.initialized RJ10 ∈ GW := GW_in 98 rfl rfl
theorem gz_RJ3 : Cond.initialized RJ3 ∈ GW := GW_in 96 rfl rfl
theorem gz_RL : Cond.initialized RL ∈ GW := GW_in 80 rfl rfl
theorem gc_X11_init : Cond.code yX11_init cX11_init 2 none ∈ GW := GW_in 105 rfl rfl
theorem gi_X11_init : Cond.instanceMethod yX11_init ∈ GW := GW_in 104 rfl rfl
theorem mf_X11_init : MF yX11_init cX11_init 2 none 0 := ⟨⟨by decide +kernel, by decide +kernel, by decide +kernel⟩, gc_X11_init, gz_RX11, by decide⟩
theorem gc_X3_init : Cond.code yX3_init cX3_init 1 none ∈ GW := GW_in 113 rfl rfl
theorem gi_X3_init : Cond.instanceMethod yX3_init ∈ GW := GW_in 112 rfl rfl
theorem mf_X3_init : MF yX3_init cX3_init 1 none 0 := ⟨⟨by decide +kernel, by decide +kernel, by decide +kernel⟩, gc_X3_init, gz_RX3, by decide⟩
theorem gc_X5_init : Cond.code yX5_init cX5_init 1 none ∈ GW := GW_in 119 rfl rfl
theorem gi_X5_init : Cond.instanceMethod yX5_init ∈ GW := GW_in 118 rfl rfl
theorem mf_X5_init : MF yX5_init cX5_init 1 none 0 := ⟨⟨by decide +kernel, by decide +kernel, by decide +kernel⟩, gc_X5_init, gz_RX5, by decide⟩
theorem gc_X8_init : Cond.code yX8_init cX8_init 1 none ∈ GW := GW_in 162 rfl rfl
theorem gi_X8_init : Cond.instanceMethod yX8_init ∈ GW := GW_in 161 rfl rfl
theorem mf_X8_init : MF yX8_init cX8_init 1 none 0 := ⟨⟨by decide +kernel, by decide +kernel, by decide +kernel⟩, gc_X8_init, gz_RX8, by decide⟩
theorem gc_X10_init : Cond.code yX10_init cX10_init 1 none ∈ GW := GW_in 225 rfl rfl
theorem gi_X10_init : Cond.instanceMethod yX10_init ∈ GW := GW_in 224 rfl rfl
theorem mf_X10_init : MF yX10_init cX10_init 1 none 0 := ⟨⟨by decide +kernel, by decide +kernel, by decide +kernel⟩, gc_X10_init, gz_RX10, by decide⟩
theorem gc_X11_chain : Cond.code yX11_chain cX11_chain 3 (some (.object "WeatherChess$Step")) ∈ GW := GW_in 278 rfl rfl
theorem gt_X11_chain : Cond.static yX11_chain ∈ GW := GW_in 277 rfl rfl
theorem mf_X11_chain : MF yX11_chain cX11_chain 3 (some (.object "WeatherChess$Step")) 1 := ⟨⟨by decide +kernel, by decide +kernel, by decide +kernel⟩, gc_X11_chain, gz_RX11, by decide⟩
theorem gc_X9_init : Cond.code yX9_init cX9_init 2 none ∈ GW := GW_in 283 rfl rfl
theorem gi_X9_init : Cond.instanceMethod yX9_init ∈ GW := GW_in 282 rfl rfl
theorem mf_X9_init : MF yX9_init cX9_init 2 none 1 := ⟨⟨by decide +kernel, by decide +kernel, by decide +kernel⟩, gc_X9_init, gz_RX9, by decide⟩
set_option maxRecDepth 50000 in
theorem gc_X6_init : Cond.code yX6_init cX6_init 1 none ∈ GW := GW_in 315 rfl rfl
set_option maxRecDepth 50000 in
theorem gi_X6_init : Cond.instanceMethod yX6_init ∈ GW := GW_in 314 rfl rfl
theorem mf_X6_init : MF yX6_init cX6_init 1 none 0 := ⟨⟨by decide +kernel, by decide +kernel, by decide +kernel⟩, gc_X6_init, gz_RX6, by decide⟩
set_option maxRecDepth 50000 in
theorem gc_X4_init : Cond.code yX4_init cX4_init 1 none ∈ GW := GW_in 321 rfl rfl
set_option maxRecDepth 50000 in
theorem gi_X4_init : Cond.instanceMethod yX4_init ∈ GW := GW_in 320 rfl rfl
theorem mf_X4_init : MF yX4_init cX4_init 1 none 0 := ⟨⟨by decide +kernel, by decide +kernel, by decide +kernel⟩, gc_X4_init, gz_RX4, by decide⟩
set_option maxRecDepth 50000 in
theorem gc_X2_init : Cond.code yX2_init cX2_init 1 none ∈ GW := GW_in 324 rfl rfl
set_option maxRecDepth 50000 in
theorem gi_X2_init : Cond.instanceMethod yX2_init ∈ GW := GW_in 323 rfl rfl
theorem mf_X2_init : MF yX2_init cX2_init 1 none 0 := ⟨⟨by decide +kernel, by decide +kernel, by decide +kernel⟩, gc_X2_init, gz_RX2, by decide⟩
set_option maxRecDepth 50000 in
theorem gc_X0_init : Cond.code yX0_init cX0_init 1 none ∈ GW := GW_in 337 rfl rfl
set_option maxRecDepth 50000 in
theorem gi_X0_init : Cond.instanceMethod yX0_init ∈ GW := GW_in 336 rfl rfl
theorem mf_X0_init : MF yX0_init cX0_init 1 none 0 := ⟨⟨by decide +kernel, by decide +kernel, by decide +kernel⟩, gc_X0_init, gz_RX0, by decide⟩
set_option maxRecDepth 50000 in
theorem gc_X1_init : Cond.code yX1_init cX1_init 1 none ∈ GW := GW_in 376 rfl rfl
set_option maxRecDepth 50000 in
theorem gi_X1_init : Cond.instanceMethod yX1_init ∈ GW := GW_in 375 rfl rfl
theorem mf_X1_init : MF yX1_init cX1_init 1 none 0 := ⟨⟨by decide +kernel, by decide +kernel, by decide +kernel⟩, gc_X1_init, gz_RX1, by decide⟩
set_option maxRecDepth 50000 in
theorem gc_X7_init : Cond.code yX7_init cX7_init 2 none ∈ GW := GW_in 393 rfl rfl
set_option maxRecDepth 50000 in
theorem gi_X7_init : Cond.instanceMethod yX7_init ∈ GW := GW_in 392 rfl rfl
theorem mf_X7_init : MF yX7_init cX7_init 2 none 0 := ⟨⟨by decide +kernel, by decide +kernel, by decide +kernel⟩, gc_X7_init, gz_RX7, by decide⟩
set_option maxRecDepth 50000 in
theorem gc_X3_clear : Cond.code yX3_clear cX3_clear 1 none ∈ GW := GW_in 412 rfl rfl
set_option maxRecDepth 50000 in
theorem gi_X3_clear : Cond.instanceMethod yX3_clear ∈ GW := GW_in 410 rfl rfl
set_option maxRecDepth 50000 in
theorem gs_X3_clear : Cond.selects RX3 yX3_clear yX3_clear ∈ GW := GW_in 411 rfl rfl
theorem mf_X3_clear : MF yX3_clear cX3_clear 1 none 0 := ⟨⟨by decide +kernel, by decide +kernel, by decide +kernel⟩, gc_X3_clear, gz_RX3, by decide⟩
set_option maxRecDepth 50000 in
theorem gc_X5_clear : Cond.code yX5_clear cX5_clear 2 none ∈ GW := GW_in 416 rfl rfl
set_option maxRecDepth 50000 in
theorem gi_X5_clear : Cond.instanceMethod yX5_clear ∈ GW := GW_in 414 rfl rfl
set_option maxRecDepth 50000 in
theorem gs_X5_clear : Cond.selects RX5 yX5_clear yX5_clear ∈ GW := GW_in 415 rfl rfl
theorem mf_X5_clear : MF yX5_clear cX5_clear 2 none 0 := ⟨⟨by decide +kernel, by decide +kernel, by decide +kernel⟩, gc_X5_clear, gz_RX5, by decide⟩
set_option maxRecDepth 50000 in
theorem gc_X8_clear : Cond.code yX8_clear cX8_clear 2 none ∈ GW := GW_in 420 rfl rfl
set_option maxRecDepth 50000 in
theorem gi_X8_clear : Cond.instanceMethod yX8_clear ∈ GW := GW_in 418 rfl rfl
set_option maxRecDepth 50000 in
theorem gs_X8_clear : Cond.selects RX8 yX8_clear yX8_clear ∈ GW := GW_in 419 rfl rfl
theorem mf_X8_clear : MF yX8_clear cX8_clear 2 none 0 := ⟨⟨by decide +kernel, by decide +kernel, by decide +kernel⟩, gc_X8_clear, gz_RX8, by decide⟩
set_option maxRecDepth 50000 in
theorem gc_X3_addTwoKings : Cond.code yX3_addTwoKings cX3_addTwoKings 1 none ∈ GW := GW_in 424 rfl rfl
set_option maxRecDepth 50000 in
theorem gi_X3_addTwoKings : Cond.instanceMethod yX3_addTwoKings ∈ GW := GW_in 422 rfl rfl
set_option maxRecDepth 50000 in
theorem gs_X3_addTwoKings : Cond.selects RX3 yX3_addTwoKings yX3_addTwoKings ∈ GW := GW_in 423 rfl rfl
theorem mf_X3_addTwoKings : MF yX3_addTwoKings cX3_addTwoKings 1 none 0 := ⟨⟨by decide +kernel, by decide +kernel, by decide +kernel⟩, gc_X3_addTwoKings, gz_RX3, by decide⟩
set_option maxRecDepth 50000 in
theorem gc_X3_addPiece : Cond.code yX3_addPiece cX3_addPiece 6 none ∈ GW := GW_in 428 rfl rfl
set_option maxRecDepth 50000 in
theorem gi_X3_addPiece : Cond.instanceMethod yX3_addPiece ∈ GW := GW_in 426 rfl rfl
set_option maxRecDepth 50000 in
theorem gs_X3_addPiece : Cond.selects RX3 yX3_addPiece yX3_addPiece ∈ GW := GW_in 427 rfl rfl
theorem mf_X3_addPiece : MF yX3_addPiece cX3_addPiece 6 none 4 := ⟨⟨by decide +kernel, by decide +kernel, by decide +kernel⟩, gc_X3_addPiece, gz_RX3, by decide⟩
set_option maxRecDepth 50000 in
theorem gc_X8_settle : Cond.code yX8_settle cX8_settle 5 none ∈ GW := GW_in 432 rfl rfl
set_option maxRecDepth 50000 in
theorem gi_X8_settle : Cond.instanceMethod yX8_settle ∈ GW := GW_in 430 rfl rfl
set_option maxRecDepth 50000 in
theorem gs_X8_settle : Cond.selects RX8 yX8_settle yX8_settle ∈ GW := GW_in 431 rfl rfl
theorem mf_X8_settle : MF yX8_settle cX8_settle 5 none 3 := ⟨⟨by decide +kernel, by decide +kernel, by decide +kernel⟩, gc_X8_settle, gz_RX8, by decide⟩
set_option maxRecDepth 50000 in
theorem gc_X5_sideOf : Cond.code yX5_sideOf cX5_sideOf 2 (some .int) ∈ GW := GW_in 436 rfl rfl
set_option maxRecDepth 50000 in
theorem gi_X5_sideOf : Cond.instanceMethod yX5_sideOf ∈ GW := GW_in 434 rfl rfl
set_option maxRecDepth 50000 in
theorem gs_X5_sideOf : Cond.selects RX5 yX5_sideOf yX5_sideOf ∈ GW := GW_in 435 rfl rfl
theorem mf_X5_sideOf : MF yX5_sideOf cX5_sideOf 2 (some .int) 1 := ⟨⟨by decide +kernel, by decide +kernel, by decide +kernel⟩, gc_X5_sideOf, gz_RX5, by decide⟩
set_option maxRecDepth 50000 in
theorem gc_X11_isSide : Cond.code yX11_isSide cX11_isSide 1 (some .boolean) ∈ GW := GW_in 439 rfl rfl
set_option maxRecDepth 50000 in
theorem gt_X11_isSide : Cond.static yX11_isSide ∈ GW := GW_in 438 rfl rfl
theorem mf_X11_isSide : MF yX11_isSide cX11_isSide 1 (some .boolean) 1 := ⟨⟨by decide +kernel, by decide +kernel, by decide +kernel⟩, gc_X11_isSide, gz_RX11, by decide⟩
set_option maxRecDepth 50000 in
theorem gc_X5_bitOf : Cond.code yX5_bitOf cX5_bitOf 1 (some .int) ∈ GW := GW_in 442 rfl rfl
set_option maxRecDepth 50000 in
theorem gt_X5_bitOf : Cond.static yX5_bitOf ∈ GW := GW_in 441 rfl rfl
theorem mf_X5_bitOf : MF yX5_bitOf cX5_bitOf 1 (some .int) 1 := ⟨⟨by decide +kernel, by decide +kernel, by decide +kernel⟩, gc_X5_bitOf, gz_RX5, by decide⟩
set_option maxRecDepth 50000 in
theorem gc_X8_fill : Cond.code yX8_fill cX8_fill 3 none ∈ GW := GW_in 446 rfl rfl
set_option maxRecDepth 50000 in
theorem gi_X8_fill : Cond.instanceMethod yX8_fill ∈ GW := GW_in 444 rfl rfl
set_option maxRecDepth 50000 in
theorem gs_X8_fill : Cond.selects RX8 yX8_fill yX8_fill ∈ GW := GW_in 445 rfl rfl
theorem mf_X8_fill : MF yX8_fill cX8_fill 3 none 2 := ⟨⟨by decide +kernel, by decide +kernel, by decide +kernel⟩, gc_X8_fill, gz_RX8, by decide⟩
set_option maxRecDepth 50000 in
theorem gc_X5_squares : Cond.code yX5_squares cX5_squares 1 (some .int) ∈ GW := GW_in 450 rfl rfl
set_option maxRecDepth 50000 in
theorem gi_X5_squares : Cond.instanceMethod yX5_squares ∈ GW := GW_in 448 rfl rfl
set_option maxRecDepth 50000 in
theorem gs_X5_squares : Cond.selects RX5 yX5_squares yX5_squares ∈ GW := GW_in 449 rfl rfl
theorem mf_X5_squares : MF yX5_squares cX5_squares 1 (some .int) 0 := ⟨⟨by decide +kernel, by decide +kernel, by decide +kernel⟩, gc_X5_squares, gz_RX5, by decide⟩
set_option maxRecDepth 50000 in
theorem gc_X11_feed : Cond.code yX11_feed cX11_feed 3 (some .int) ∈ GW := GW_in 488 rfl rfl
set_option maxRecDepth 50000 in
theorem gi_X11_feed : Cond.instanceMethod yX11_feed ∈ GW := GW_in 486 rfl rfl
set_option maxRecDepth 50000 in
theorem gs_X11_feed : Cond.selects RX11 yX11_feed yX11_feed ∈ GW := GW_in 487 rfl rfl
theorem mf_X11_feed : MF yX11_feed cX11_feed 3 (some .int) 1 := ⟨⟨by decide +kernel, by decide +kernel, by decide +kernel⟩, gc_X11_feed, gz_RX11, by decide⟩
set_option maxRecDepth 50000 in
theorem gc_X10_append : Cond.code yX10_append cX10_append 4 (some .boolean) ∈ GW := GW_in 492 rfl rfl
set_option maxRecDepth 50000 in
theorem gi_X10_append : Cond.instanceMethod yX10_append ∈ GW := GW_in 490 rfl rfl
set_option maxRecDepth 50000 in
theorem gs_X10_append : Cond.selects RX10 yX10_append yX10_append ∈ GW := GW_in 491 rfl rfl
theorem mf_X10_append : MF yX10_append cX10_append 4 (some .boolean) 1 := ⟨⟨by decide +kernel, by decide +kernel, by decide +kernel⟩, gc_X10_append, gz_RX10, by decide⟩
set_option maxRecDepth 50000 in
theorem gc_X11_end : Cond.code yX11_end cX11_end 3 (some .int) ∈ GW := GW_in 496 rfl rfl
set_option maxRecDepth 50000 in
theorem gi_X11_end : Cond.instanceMethod yX11_end ∈ GW := GW_in 494 rfl rfl
set_option maxRecDepth 50000 in
theorem gs_X11_end : Cond.selects RX11 yX11_end yX11_end ∈ GW := GW_in 495 rfl rfl
theorem mf_X11_end : MF yX11_end cX11_end 3 (some .int) 1 := ⟨⟨by decide +kernel, by decide +kernel, by decide +kernel⟩, gc_X11_end, gz_RX11, by decide⟩
set_option maxRecDepth 50000 in
theorem gc_X11_text : Cond.code yX11_text cX11_text 3 (some .int) ∈ GW := GW_in 500 rfl rfl
set_option maxRecDepth 50000 in
theorem gi_X11_text : Cond.instanceMethod yX11_text ∈ GW := GW_in 498 rfl rfl
set_option maxRecDepth 50000 in
theorem gs_X11_text : Cond.selects RX11 yX11_text yX11_text ∈ GW := GW_in 499 rfl rfl
theorem mf_X11_text : MF yX11_text cX11_text 3 (some .int) 0 := ⟨⟨by decide +kernel, by decide +kernel, by decide +kernel⟩, gc_X11_text, gz_RX11, by decide⟩
set_option maxRecDepth 50000 in
theorem gc_X10_tellAll : Cond.code yX10_tellAll cX10_tellAll 2 (some .boolean) ∈ GW := GW_in 504 rfl rfl
set_option maxRecDepth 50000 in
theorem gi_X10_tellAll : Cond.instanceMethod yX10_tellAll ∈ GW := GW_in 502 rfl rfl
set_option maxRecDepth 50000 in
theorem gs_X10_tellAll : Cond.selects RX10 yX10_tellAll yX10_tellAll ∈ GW := GW_in 503 rfl rfl
theorem mf_X10_tellAll : MF yX10_tellAll cX10_tellAll 2 (some .boolean) 0 := ⟨⟨by decide +kernel, by decide +kernel, by decide +kernel⟩, gc_X10_tellAll, gz_RX10, by decide⟩
set_option maxRecDepth 50000 in
theorem gc_X10_readToken : Cond.code yX10_readToken cX10_readToken 2 (some .boolean) ∈ GW := GW_in 509 rfl rfl
set_option maxRecDepth 50000 in
theorem gi_X10_readToken : Cond.instanceMethod yX10_readToken ∈ GW := GW_in 508 rfl rfl
theorem gs_X10_readToken : Cond.selects RX10 yX10_readToken yX10_readToken ∈ GW := GW_in 0 rfl rfl
theorem mf_X10_readToken : MF yX10_readToken cX10_readToken 2 (some .boolean) 0 := ⟨⟨by decide +kernel, by decide +kernel, by decide +kernel⟩, gc_X10_readToken, gz_RX10, by decide⟩
set_option maxRecDepth 50000 in
theorem gc_X10_endOfRun : Cond.code yX10_endOfRun cX10_endOfRun 5 (some .int) ∈ GW := GW_in 513 rfl rfl
set_option maxRecDepth 50000 in
theorem gi_X10_endOfRun : Cond.instanceMethod yX10_endOfRun ∈ GW := GW_in 512 rfl rfl
theorem gs_X10_endOfRun : Cond.selects RX10 yX10_endOfRun yX10_endOfRun ∈ GW := GW_in 1 rfl rfl
theorem mf_X10_endOfRun : MF yX10_endOfRun cX10_endOfRun 5 (some .int) 3 := ⟨⟨by decide +kernel, by decide +kernel, by decide +kernel⟩, gc_X10_endOfRun, gz_RX10, by decide⟩
set_option maxRecDepth 50000 in
theorem gc_X10_byteAt : Cond.code yX10_byteAt cX10_byteAt 2 (some .int) ∈ GW := GW_in 517 rfl rfl
set_option maxRecDepth 50000 in
theorem gi_X10_byteAt : Cond.instanceMethod yX10_byteAt ∈ GW := GW_in 516 rfl rfl
theorem gs_X10_byteAt : Cond.selects RX10 yX10_byteAt yX10_byteAt ∈ GW := GW_in 2 rfl rfl
theorem mf_X10_byteAt : MF yX10_byteAt cX10_byteAt 2 (some .int) 1 := ⟨⟨by decide +kernel, by decide +kernel, by decide +kernel⟩, gc_X10_byteAt, gz_RX10, by decide⟩
set_option maxRecDepth 50000 in
theorem gc_X10_fail : Cond.code yX10_fail cX10_fail 3 (some .boolean) ∈ GW := GW_in 521 rfl rfl
set_option maxRecDepth 50000 in
theorem gi_X10_fail : Cond.instanceMethod yX10_fail ∈ GW := GW_in 520 rfl rfl
theorem gs_X10_fail : Cond.selects RX10 yX10_fail yX10_fail ∈ GW := GW_in 3 rfl rfl
theorem mf_X10_fail : MF yX10_fail cX10_fail 3 (some .boolean) 2 := ⟨⟨by decide +kernel, by decide +kernel, by decide +kernel⟩, gc_X10_fail, gz_RX10, by decide⟩
set_option maxRecDepth 50000 in
theorem gc_X10_isWhole : Cond.code yX10_isWhole cX10_isWhole 1 (some .boolean) ∈ GW := GW_in 525 rfl rfl
set_option maxRecDepth 50000 in
theorem gi_X10_isWhole : Cond.instanceMethod yX10_isWhole ∈ GW := GW_in 524 rfl rfl
theorem gs_X10_isWhole : Cond.selects RX10 yX10_isWhole yX10_isWhole ∈ GW := GW_in 4 rfl rfl
theorem mf_X10_isWhole : MF yX10_isWhole cX10_isWhole 1 (some .boolean) 0 := ⟨⟨by decide +kernel, by decide +kernel, by decide +kernel⟩, gc_X10_isWhole, gz_RX10, by decide⟩
set_option maxRecDepth 50000 in
theorem gc_X10_hasItsSquares : Cond.code yX10_hasItsSquares cX10_hasItsSquares 2 (some .boolean) ∈ GW := GW_in 529 rfl rfl
set_option maxRecDepth 50000 in
theorem gi_X10_hasItsSquares : Cond.instanceMethod yX10_hasItsSquares ∈ GW := GW_in 528 rfl rfl
theorem gs_X10_hasItsSquares : Cond.selects RX10 yX10_hasItsSquares yX10_hasItsSquares ∈ GW := GW_in 5 rfl rfl
theorem mf_X10_hasItsSquares : MF yX10_hasItsSquares cX10_hasItsSquares 2 (some .boolean) 0 := ⟨⟨by decide +kernel, by decide +kernel, by decide +kernel⟩, gc_X10_hasItsSquares, gz_RX10, by decide⟩
set_option maxRecDepth 50000 in
theorem gc_X8_heldBy : Cond.code yX8_heldBy cX8_heldBy 2 (some .int) ∈ GW := GW_in 533 rfl rfl
set_option maxRecDepth 50000 in
theorem gi_X8_heldBy : Cond.instanceMethod yX8_heldBy ∈ GW := GW_in 531 rfl rfl
set_option maxRecDepth 50000 in
theorem gs_X8_heldBy : Cond.selects RX8 yX8_heldBy yX8_heldBy ∈ GW := GW_in 532 rfl rfl
theorem mf_X8_heldBy : MF yX8_heldBy cX8_heldBy 2 (some .int) 1 := ⟨⟨by decide +kernel, by decide +kernel, by decide +kernel⟩, gc_X8_heldBy, gz_RX8, by decide⟩
set_option maxRecDepth 50000 in
theorem gc_X10_kings : Cond.code yX10_kings cX10_kings 4 (some .int) ∈ GW := GW_in 538 rfl rfl
set_option maxRecDepth 50000 in
theorem gi_X10_kings : Cond.instanceMethod yX10_kings ∈ GW := GW_in 537 rfl rfl
theorem gs_X10_kings : Cond.selects RX10 yX10_kings yX10_kings ∈ GW := GW_in 6 rfl rfl
theorem mf_X10_kings : MF yX10_kings cX10_kings 4 (some .int) 1 := ⟨⟨by decide +kernel, by decide +kernel, by decide +kernel⟩, gc_X10_kings, gz_RX10, by decide⟩
set_option maxRecDepth 50000 in
theorem gc_X5_kindOf : Cond.code yX5_kindOf cX5_kindOf 2 (some .int) ∈ GW := GW_in 542 rfl rfl
set_option maxRecDepth 50000 in
theorem gi_X5_kindOf : Cond.instanceMethod yX5_kindOf ∈ GW := GW_in 540 rfl rfl
set_option maxRecDepth 50000 in
theorem gs_X5_kindOf : Cond.selects RX5 yX5_kindOf yX5_kindOf ∈ GW := GW_in 541 rfl rfl
theorem mf_X5_kindOf : MF yX5_kindOf cX5_kindOf 2 (some .int) 1 := ⟨⟨by decide +kernel, by decide +kernel, by decide +kernel⟩, gc_X5_kindOf, gz_RX5, by decide⟩
set_option maxRecDepth 50000 in
theorem gc_X5_isClosed : Cond.code yX5_isClosed cX5_isClosed 2 (some .boolean) ∈ GW := GW_in 547 rfl rfl
set_option maxRecDepth 50000 in
theorem gi_X5_isClosed : Cond.instanceMethod yX5_isClosed ∈ GW := GW_in 545 rfl rfl
set_option maxRecDepth 50000 in
theorem gs_X5_isClosed : Cond.selects RX5 yX5_isClosed yX5_isClosed ∈ GW := GW_in 546 rfl rfl
theorem mf_X5_isClosed : MF yX5_isClosed cX5_isClosed 2 (some .boolean) 1 := ⟨⟨by decide +kernel, by decide +kernel, by decide +kernel⟩, gc_X5_isClosed, gz_RX5, by decide⟩
set_option maxRecDepth 50000 in
theorem gc_X10_readLine : Cond.code yX10_readLine cX10_readLine 1 (some .boolean) ∈ GW := GW_in 553 rfl rfl
set_option maxRecDepth 50000 in
theorem gi_X10_readLine : Cond.instanceMethod yX10_readLine ∈ GW := GW_in 552 rfl rfl
theorem gs_X10_readLine : Cond.selects RX10 yX10_readLine yX10_readLine ∈ GW := GW_in 7 rfl rfl
theorem mf_X10_readLine : MF yX10_readLine cX10_readLine 1 (some .boolean) 0 := ⟨⟨by decide +kernel, by decide +kernel, by decide +kernel⟩, gc_X10_readLine, gz_RX10, by decide⟩
set_option maxRecDepth 50000 in
theorem gc_X10_isName : Cond.code yX10_isName cX10_isName 3 (some .boolean) ∈ GW := GW_in 558 rfl rfl
set_option maxRecDepth 50000 in
theorem gi_X10_isName : Cond.instanceMethod yX10_isName ∈ GW := GW_in 557 rfl rfl
theorem gs_X10_isName : Cond.selects RX10 yX10_isName yX10_isName ∈ GW := GW_in 8 rfl rfl
theorem mf_X10_isName : MF yX10_isName cX10_isName 3 (some .boolean) 1 := ⟨⟨by decide +kernel, by decide +kernel, by decide +kernel⟩, gc_X10_isName, gz_RX10, by decide⟩
set_option maxRecDepth 50000 in
theorem gc_J0_length_8abf5 : Cond.code yJ0_length_8abf5 cJ0_length_8abf5 1 (some .int) ∈ GW := GW_in 562 rfl rfl
set_option maxRecDepth 50000 in
theorem gi_J0_length_8abf5 : Cond.instanceMethod yJ0_length_8abf5 ∈ GW := GW_in 560 rfl rfl
set_option maxRecDepth 50000 in
theorem gs_J0_length_8abf5 : Cond.selects RJ0 yJ0_length_8abf5 yJ0_length_8abf5 ∈ GW := GW_in 561 rfl rfl
theorem mf_J0_length_8abf5 : MF yJ0_length_8abf5 cJ0_length_8abf5 1 (some .int) 0 := ⟨⟨by decide +kernel, by decide +kernel, by decide +kernel⟩, gc_J0_length_8abf5, gz_RJ0, by decide⟩
set_option maxRecDepth 50000 in
theorem gc_J0_coder_7d493 : Cond.code yJ0_coder_7d493 cJ0_coder_7d493 1 (some .byte) ∈ GW := GW_in 566 rfl rfl
set_option maxRecDepth 50000 in
theorem gi_J0_coder_7d493 : Cond.instanceMethod yJ0_coder_7d493 ∈ GW := GW_in 564 rfl rfl
set_option maxRecDepth 50000 in
theorem gs_J0_coder_7d493 : Cond.selects RJ0 yJ0_coder_7d493 yJ0_coder_7d493 ∈ GW := GW_in 565 rfl rfl
theorem mf_J0_coder_7d493 : MF yJ0_coder_7d493 cJ0_coder_7d493 1 (some .byte) 0 := ⟨⟨by decide +kernel, by decide +kernel, by decide +kernel⟩, gc_J0_coder_7d493, gz_RJ0, by decide⟩
set_option maxRecDepth 50000 in
theorem gc_J0_charAt_5068e : Cond.code yJ0_charAt_5068e cJ0_charAt_5068e 2 (some .char) ∈ GW := GW_in 572 rfl rfl
set_option maxRecDepth 50000 in
theorem gi_J0_charAt_5068e : Cond.instanceMethod yJ0_charAt_5068e ∈ GW := GW_in 570 rfl rfl
set_option maxRecDepth 50000 in
theorem gs_J0_charAt_5068e : Cond.selects RJ0 yJ0_charAt_5068e yJ0_charAt_5068e ∈ GW := GW_in 571 rfl rfl
theorem mf_J0_charAt_5068e : MF yJ0_charAt_5068e cJ0_charAt_5068e 2 (some .char) 1 := ⟨⟨by decide +kernel, by decide +kernel, by decide +kernel⟩, gc_J0_charAt_5068e, gz_RJ0, by decide⟩
set_option maxRecDepth 50000 in
theorem gc_J0_isLatin1_aae02 : Cond.code yJ0_isLatin1_aae02 cJ0_isLatin1_aae02 1 (some .boolean) ∈ GW := GW_in 576 rfl rfl
set_option maxRecDepth 50000 in
theorem gi_J0_isLatin1_aae02 : Cond.instanceMethod yJ0_isLatin1_aae02 ∈ GW := GW_in 574 rfl rfl
set_option maxRecDepth 50000 in
theorem gs_J0_isLatin1_aae02 : Cond.selects RJ0 yJ0_isLatin1_aae02 yJ0_isLatin1_aae02 ∈ GW := GW_in 575 rfl rfl
theorem mf_J0_isLatin1_aae02 : MF yJ0_isLatin1_aae02 cJ0_isLatin1_aae02 1 (some .boolean) 0 := ⟨⟨by decide +kernel, by decide +kernel, by decide +kernel⟩, gc_J0_isLatin1_aae02, gz_RJ0, by decide⟩
set_option maxRecDepth 50000 in
theorem gc_J1_charAt_3b067 : Cond.code yJ1_charAt_3b067 cJ1_charAt_3b067 2 (some .char) ∈ GW := GW_in 579 rfl rfl
set_option maxRecDepth 50000 in
theorem gt_J1_charAt_3b067 : Cond.static yJ1_charAt_3b067 ∈ GW := GW_in 578 rfl rfl
theorem mf_J1_charAt_3b067 : MF yJ1_charAt_3b067 cJ1_charAt_3b067 2 (some .char) 2 := ⟨⟨by decide +kernel, by decide +kernel, by decide +kernel⟩, gc_J1_charAt_3b067, gz_RJ1, by decide⟩
set_option maxRecDepth 50000 in
theorem gc_J0_checkIndex_df160 : Cond.code yJ0_checkIndex_df160 cJ0_checkIndex_df160 2 none ∈ GW := GW_in 582 rfl rfl
set_option maxRecDepth 50000 in
theorem gt_J0_checkIndex_df160 : Cond.static yJ0_checkIndex_df160 ∈ GW := GW_in 581 rfl rfl
theorem mf_J0_checkIndex_df160 : MF yJ0_checkIndex_df160 cJ0_checkIndex_df160 2 none 2 := ⟨⟨by decide +kernel, by decide +kernel, by decide +kernel⟩, gc_J0_checkIndex_df160, gz_RJ0, by decide⟩
set_option maxRecDepth 50000 in
theorem gc_J3_checkIndex_8e157 : Cond.code yJ3_checkIndex_8e157 cJ3_checkIndex_8e157 3 (some .int) ∈ GW := GW_in 587 rfl rfl
set_option maxRecDepth 50000 in
theorem gt_J3_checkIndex_8e157 : Cond.static yJ3_checkIndex_8e157 ∈ GW := GW_in 586 rfl rfl
theorem mf_J3_checkIndex_8e157 : MF yJ3_checkIndex_8e157 cJ3_checkIndex_8e157 3 (some .int) 3 := ⟨⟨by decide +kernel, by decide +kernel, by decide +kernel⟩, gc_J3_checkIndex_8e157, gz_RJ3, by decide⟩
set_option maxRecDepth 50000 in
theorem gc_J2_charAt_3b067 : Cond.code yJ2_charAt_3b067 cJ2_charAt_3b067 2 (some .char) ∈ GW := GW_in 590 rfl rfl
set_option maxRecDepth 50000 in
theorem gt_J2_charAt_3b067 : Cond.static yJ2_charAt_3b067 ∈ GW := GW_in 589 rfl rfl
theorem mf_J2_charAt_3b067 : MF yJ2_charAt_3b067 cJ2_charAt_3b067 2 (some .char) 2 := ⟨⟨by decide +kernel, by decide +kernel, by decide +kernel⟩, gc_J2_charAt_3b067, gz_RJ2, by decide⟩
set_option maxRecDepth 50000 in
theorem gc_J2_checkIndex_2214a : Cond.code yJ2_checkIndex_2214a cJ2_checkIndex_2214a 2 none ∈ GW := GW_in 593 rfl rfl
set_option maxRecDepth 50000 in
theorem gt_J2_checkIndex_2214a : Cond.static yJ2_checkIndex_2214a ∈ GW := GW_in 592 rfl rfl
theorem mf_J2_checkIndex_2214a : MF yJ2_checkIndex_2214a cJ2_checkIndex_2214a 2 none 2 := ⟨⟨by decide +kernel, by decide +kernel, by decide +kernel⟩, gc_J2_checkIndex_2214a, gz_RJ2, by decide⟩
set_option maxRecDepth 50000 in
theorem gc_J2_length_9d52b : Cond.code yJ2_length_9d52b cJ2_length_9d52b 1 (some .int) ∈ GW := GW_in 596 rfl rfl
set_option maxRecDepth 50000 in
theorem gt_J2_length_9d52b : Cond.static yJ2_length_9d52b ∈ GW := GW_in 595 rfl rfl
theorem mf_J2_length_9d52b : MF yJ2_length_9d52b cJ2_length_9d52b 1 (some .int) 1 := ⟨⟨by decide +kernel, by decide +kernel, by decide +kernel⟩, gc_J2_length_9d52b, gz_RJ2, by decide⟩
set_option maxRecDepth 50000 in
theorem gc_J2_getChar_3b067 : Cond.code yJ2_getChar_3b067 cJ2_getChar_3b067 2 (some .char) ∈ GW := GW_in 600 rfl rfl
set_option maxRecDepth 50000 in
theorem gt_J2_getChar_3b067 : Cond.static yJ2_getChar_3b067 ∈ GW := GW_in 599 rfl rfl
theorem mf_J2_getChar_3b067 : MF yJ2_getChar_3b067 cJ2_getChar_3b067 2 (some .char) 2 := ⟨⟨by decide +kernel, by decide +kernel, by decide +kernel⟩, gc_J2_getChar_3b067, gz_RJ2, by decide⟩
set_option maxRecDepth 50000 in
theorem gc_X10_readBoard : Cond.code yX10_readBoard cX10_readBoard 1 (some .boolean) ∈ GW := GW_in 610 rfl rfl
set_option maxRecDepth 50000 in
theorem gi_X10_readBoard : Cond.instanceMethod yX10_readBoard ∈ GW := GW_in 609 rfl rfl
theorem gs_X10_readBoard : Cond.selects RX10 yX10_readBoard yX10_readBoard ∈ GW := GW_in 9 rfl rfl
theorem mf_X10_readBoard : MF yX10_readBoard cX10_readBoard 1 (some .boolean) 0 := ⟨⟨by decide +kernel, by decide +kernel, by decide +kernel⟩, gc_X10_readBoard, gz_RX10, by decide⟩
set_option maxRecDepth 50000 in
theorem gc_X10_readNumber : Cond.code yX10_readNumber cX10_readNumber 3 (some .boolean) ∈ GW := GW_in 614 rfl rfl
set_option maxRecDepth 50000 in
theorem gi_X10_readNumber : Cond.instanceMethod yX10_readNumber ∈ GW := GW_in 613 rfl rfl
theorem gs_X10_readNumber : Cond.selects RX10 yX10_readNumber yX10_readNumber ∈ GW := GW_in 10 rfl rfl
theorem mf_X10_readNumber : MF yX10_readNumber cX10_readNumber 3 (some .boolean) 2 := ⟨⟨by decide +kernel, by decide +kernel, by decide +kernel⟩, gc_X10_readNumber, gz_RX10, by decide⟩
set_option maxRecDepth 50000 in
theorem gc_X10_readSign : Cond.code yX10_readSign cX10_readSign 1 (some .boolean) ∈ GW := GW_in 618 rfl rfl
set_option maxRecDepth 50000 in
theorem gi_X10_readSign : Cond.instanceMethod yX10_readSign ∈ GW := GW_in 617 rfl rfl
theorem gs_X10_readSign : Cond.selects RX10 yX10_readSign yX10_readSign ∈ GW := GW_in 11 rfl rfl
theorem mf_X10_readSign : MF yX10_readSign cX10_readSign 1 (some .boolean) 0 := ⟨⟨by decide +kernel, by decide +kernel, by decide +kernel⟩, gc_X10_readSign, gz_RX10, by decide⟩
set_option maxRecDepth 50000 in
theorem gc_X10_readSteeple : Cond.code yX10_readSteeple cX10_readSteeple 1 (some .boolean) ∈ GW := GW_in 623 rfl rfl
set_option maxRecDepth 50000 in
theorem gi_X10_readSteeple : Cond.instanceMethod yX10_readSteeple ∈ GW := GW_in 622 rfl rfl
theorem gs_X10_readSteeple : Cond.selects RX10 yX10_readSteeple yX10_readSteeple ∈ GW := GW_in 12 rfl rfl
theorem mf_X10_readSteeple : MF yX10_readSteeple cX10_readSteeple 1 (some .boolean) 0 := ⟨⟨by decide +kernel, by decide +kernel, by decide +kernel⟩, gc_X10_readSteeple, gz_RX10, by decide⟩
set_option maxRecDepth 50000 in
theorem gc_X10_readFreeSquare : Cond.code yX10_readFreeSquare cX10_readFreeSquare 2 (some .boolean) ∈ GW := GW_in 627 rfl rfl
set_option maxRecDepth 50000 in
theorem gi_X10_readFreeSquare : Cond.instanceMethod yX10_readFreeSquare ∈ GW := GW_in 626 rfl rfl
theorem gs_X10_readFreeSquare : Cond.selects RX10 yX10_readFreeSquare yX10_readFreeSquare ∈ GW := GW_in 13 rfl rfl
theorem mf_X10_readFreeSquare : MF yX10_readFreeSquare cX10_readFreeSquare 2 (some .boolean) 0 := ⟨⟨by decide +kernel, by decide +kernel, by decide +kernel⟩, gc_X10_readFreeSquare, gz_RX10, by decide⟩
set_option maxRecDepth 50000 in
theorem gc_X8_pieceOn : Cond.code yX8_pieceOn cX8_pieceOn 4 (some .int) ∈ GW := GW_in 631 rfl rfl
set_option maxRecDepth 50000 in
theorem gi_X8_pieceOn : Cond.instanceMethod yX8_pieceOn ∈ GW := GW_in 629 rfl rfl
set_option maxRecDepth 50000 in
theorem gs_X8_pieceOn : Cond.selects RX8 yX8_pieceOn yX8_pieceOn ∈ GW := GW_in 630 rfl rfl
theorem mf_X8_pieceOn : MF yX8_pieceOn cX8_pieceOn 4 (some .int) 2 := ⟨⟨by decide +kernel, by decide +kernel, by decide +kernel⟩, gc_X8_pieceOn, gz_RX8, by decide⟩
set_option maxRecDepth 50000 in
theorem gc_X8_placeOf : Cond.code yX8_placeOf cX8_placeOf 2 (some .int) ∈ GW := GW_in 635 rfl rfl
set_option maxRecDepth 50000 in
theorem gi_X8_placeOf : Cond.instanceMethod yX8_placeOf ∈ GW := GW_in 633 rfl rfl
set_option maxRecDepth 50000 in
theorem gs_X8_placeOf : Cond.selects RX8 yX8_placeOf yX8_placeOf ∈ GW := GW_in 634 rfl rfl
theorem mf_X8_placeOf : MF yX8_placeOf cX8_placeOf 2 (some .int) 1 := ⟨⟨by decide +kernel, by decide +kernel, by decide +kernel⟩, gc_X8_placeOf, gz_RX8, by decide⟩
set_option maxRecDepth 50000 in
theorem gc_X5_close : Cond.code yX5_close cX5_close 3 none ∈ GW := GW_in 639 rfl rfl
set_option maxRecDepth 50000 in
theorem gi_X5_close : Cond.instanceMethod yX5_close ∈ GW := GW_in 637 rfl rfl
set_option maxRecDepth 50000 in
theorem gs_X5_close : Cond.selects RX5 yX5_close yX5_close ∈ GW := GW_in 638 rfl rfl
theorem mf_X5_close : MF yX5_close cX5_close 3 none 2 := ⟨⟨by decide +kernel, by decide +kernel, by decide +kernel⟩, gc_X5_close, gz_RX5, by decide⟩
set_option maxRecDepth 50000 in
theorem gc_X10_readPiece : Cond.code yX10_readPiece cX10_readPiece 4 (some .boolean) ∈ GW := GW_in 644 rfl rfl
set_option maxRecDepth 50000 in
theorem gi_X10_readPiece : Cond.instanceMethod yX10_readPiece ∈ GW := GW_in 643 rfl rfl
theorem gs_X10_readPiece : Cond.selects RX10 yX10_readPiece yX10_readPiece ∈ GW := GW_in 14 rfl rfl
theorem mf_X10_readPiece : MF yX10_readPiece cX10_readPiece 4 (some .boolean) 0 := ⟨⟨by decide +kernel, by decide +kernel, by decide +kernel⟩, gc_X10_readPiece, gz_RX10, by decide⟩
set_option maxRecDepth 50000 in
theorem gc_X10_kindNamed : Cond.code yX10_kindNamed cX10_kindNamed 1 (some .int) ∈ GW := GW_in 648 rfl rfl
set_option maxRecDepth 50000 in
theorem gi_X10_kindNamed : Cond.instanceMethod yX10_kindNamed ∈ GW := GW_in 647 rfl rfl
theorem gs_X10_kindNamed : Cond.selects RX10 yX10_kindNamed yX10_kindNamed ∈ GW := GW_in 15 rfl rfl
theorem mf_X10_kindNamed : MF yX10_kindNamed cX10_kindNamed 1 (some .int) 0 := ⟨⟨by decide +kernel, by decide +kernel, by decide +kernel⟩, gc_X10_kindNamed, gz_RX10, by decide⟩
set_option maxRecDepth 50000 in
theorem gc_X10_readOdds : Cond.code yX10_readOdds cX10_readOdds 2 (some .boolean) ∈ GW := GW_in 658 rfl rfl
set_option maxRecDepth 50000 in
theorem gi_X10_readOdds : Cond.instanceMethod yX10_readOdds ∈ GW := GW_in 657 rfl rfl
theorem gs_X10_readOdds : Cond.selects RX10 yX10_readOdds yX10_readOdds ∈ GW := GW_in 16 rfl rfl
theorem mf_X10_readOdds : MF yX10_readOdds cX10_readOdds 2 (some .boolean) 0 := ⟨⟨by decide +kernel, by decide +kernel, by decide +kernel⟩, gc_X10_readOdds, gz_RX10, by decide⟩
set_option maxRecDepth 50000 in
theorem gc_X5_setOdds : Cond.code yX5_setOdds cX5_setOdds 3 none ∈ GW := GW_in 662 rfl rfl
set_option maxRecDepth 50000 in
theorem gi_X5_setOdds : Cond.instanceMethod yX5_setOdds ∈ GW := GW_in 660 rfl rfl
set_option maxRecDepth 50000 in
theorem gs_X5_setOdds : Cond.selects RX5 yX5_setOdds yX5_setOdds ∈ GW := GW_in 661 rfl rfl
theorem mf_X5_setOdds : MF yX5_setOdds cX5_setOdds 3 none 2 := ⟨⟨by decide +kernel, by decide +kernel, by decide +kernel⟩, gc_X5_setOdds, gz_RX5, by decide⟩
set_option maxRecDepth 50000 in
theorem gc_X5_allOdds : Cond.code yX5_allOdds cX5_allOdds 3 (some .int) ∈ GW := GW_in 666 rfl rfl
set_option maxRecDepth 50000 in
theorem gi_X5_allOdds : Cond.instanceMethod yX5_allOdds ∈ GW := GW_in 664 rfl rfl
set_option maxRecDepth 50000 in
theorem gs_X5_allOdds : Cond.selects RX5 yX5_allOdds yX5_allOdds ∈ GW := GW_in 665 rfl rfl
theorem mf_X5_allOdds : MF yX5_allOdds cX5_allOdds 3 (some .int) 0 := ⟨⟨by decide +kernel, by decide +kernel, by decide +kernel⟩, gc_X5_allOdds, gz_RX5, by decide⟩
set_option maxRecDepth 50000 in
theorem gc_X10_readTurn : Cond.code yX10_readTurn cX10_readTurn 1 (some .boolean) ∈ GW := GW_in 671 rfl rfl
set_option maxRecDepth 50000 in
theorem gi_X10_readTurn : Cond.instanceMethod yX10_readTurn ∈ GW := GW_in 670 rfl rfl
theorem gs_X10_readTurn : Cond.selects RX10 yX10_readTurn yX10_readTurn ∈ GW := GW_in 17 rfl rfl
theorem mf_X10_readTurn : MF yX10_readTurn cX10_readTurn 1 (some .boolean) 0 := ⟨⟨by decide +kernel, by decide +kernel, by decide +kernel⟩, gc_X10_readTurn, gz_RX10, by decide⟩
set_option maxRecDepth 50000 in
theorem gc_X3_copyFrom : Cond.code yX3_copyFrom cX3_copyFrom 2 none ∈ GW := GW_in 675 rfl rfl
set_option maxRecDepth 50000 in
theorem gi_X3_copyFrom : Cond.instanceMethod yX3_copyFrom ∈ GW := GW_in 673 rfl rfl
set_option maxRecDepth 50000 in
theorem gs_X3_copyFrom : Cond.selects RX3 yX3_copyFrom yX3_copyFrom ∈ GW := GW_in 674 rfl rfl
theorem mf_X3_copyFrom : MF yX3_copyFrom cX3_copyFrom 2 none 1 := ⟨⟨by decide +kernel, by decide +kernel, by decide +kernel⟩, gc_X3_copyFrom, gz_RX3, by decide⟩
set_option maxRecDepth 50000 in
theorem gc_X5_copyFrom : Cond.code yX5_copyFrom cX5_copyFrom 2 none ∈ GW := GW_in 679 rfl rfl
set_option maxRecDepth 50000 in
theorem gi_X5_copyFrom : Cond.instanceMethod yX5_copyFrom ∈ GW := GW_in 677 rfl rfl
set_option maxRecDepth 50000 in
theorem gs_X5_copyFrom : Cond.selects RX5 yX5_copyFrom yX5_copyFrom ∈ GW := GW_in 678 rfl rfl
theorem mf_X5_copyFrom : MF yX5_copyFrom cX5_copyFrom 2 none 1 := ⟨⟨by decide +kernel, by decide +kernel, by decide +kernel⟩, gc_X5_copyFrom, gz_RX5, by decide⟩
set_option maxRecDepth 50000 in
theorem gc_X8_copyFrom : Cond.code yX8_copyFrom cX8_copyFrom 2 none ∈ GW := GW_in 686 rfl rfl
set_option maxRecDepth 50000 in
theorem gi_X8_copyFrom : Cond.instanceMethod yX8_copyFrom ∈ GW := GW_in 684 rfl rfl
set_option maxRecDepth 50000 in
theorem gs_X8_copyFrom : Cond.selects RX8 yX8_copyFrom yX8_copyFrom ∈ GW := GW_in 685 rfl rfl
theorem mf_X8_copyFrom : MF yX8_copyFrom cX8_copyFrom 2 none 1 := ⟨⟨by decide +kernel, by decide +kernel, by decide +kernel⟩, gc_X8_copyFrom, gz_RX8, by decide⟩
set_option maxRecDepth 50000 in
theorem gc_X11_fault : Cond.code yX11_fault cX11_fault 1 (some .int) ∈ GW := GW_in 692 rfl rfl
set_option maxRecDepth 50000 in
theorem gi_X11_fault : Cond.instanceMethod yX11_fault ∈ GW := GW_in 690 rfl rfl
set_option maxRecDepth 50000 in
theorem gs_X11_fault : Cond.selects RX11 yX11_fault yX11_fault ∈ GW := GW_in 691 rfl rfl
theorem mf_X11_fault : MF yX11_fault cX11_fault 1 (some .int) 0 := ⟨⟨by decide +kernel, by decide +kernel, by decide +kernel⟩, gc_X11_fault, gz_RX11, by decide⟩
set_option maxRecDepth 50000 in
theorem gc_X11_rule : Cond.code yX11_rule cX11_rule 2 (some .int) ∈ GW := GW_in 696 rfl rfl
set_option maxRecDepth 50000 in
theorem gi_X11_rule : Cond.instanceMethod yX11_rule ∈ GW := GW_in 694 rfl rfl
set_option maxRecDepth 50000 in
theorem gs_X11_rule : Cond.selects RX11 yX11_rule yX11_rule ∈ GW := GW_in 695 rfl rfl
theorem mf_X11_rule : MF yX11_rule cX11_rule 2 (some .int) 1 := ⟨⟨by decide +kernel, by decide +kernel, by decide +kernel⟩, gc_X11_rule, gz_RX11, by decide⟩
set_option maxRecDepth 50000 in
theorem gc_X8_lostSide : Cond.code yX8_lostSide cX8_lostSide 3 (some .int) ∈ GW := GW_in 700 rfl rfl
set_option maxRecDepth 50000 in
theorem gi_X8_lostSide : Cond.instanceMethod yX8_lostSide ∈ GW := GW_in 698 rfl rfl
set_option maxRecDepth 50000 in
theorem gs_X8_lostSide : Cond.selects RX8 yX8_lostSide yX8_lostSide ∈ GW := GW_in 699 rfl rfl
theorem mf_X8_lostSide : MF yX8_lostSide cX8_lostSide 3 (some .int) 1 := ⟨⟨by decide +kernel, by decide +kernel, by decide +kernel⟩, gc_X8_lostSide, gz_RX8, by decide⟩
set_option maxRecDepth 50000 in
theorem gc_X11_square : Cond.code yX11_square cX11_square 2 (some .int) ∈ GW := GW_in 705 rfl rfl
set_option maxRecDepth 50000 in
theorem gi_X11_square : Cond.instanceMethod yX11_square ∈ GW := GW_in 703 rfl rfl
set_option maxRecDepth 50000 in
theorem gs_X11_square : Cond.selects RX11 yX11_square yX11_square ∈ GW := GW_in 704 rfl rfl
theorem mf_X11_square : MF yX11_square cX11_square 2 (some .int) 1 := ⟨⟨by decide +kernel, by decide +kernel, by decide +kernel⟩, gc_X11_square, gz_RX11, by decide⟩
set_option maxRecDepth 50000 in
theorem gc_X5_isSquare : Cond.code yX5_isSquare cX5_isSquare 2 (some .boolean) ∈ GW := GW_in 709 rfl rfl
set_option maxRecDepth 50000 in
theorem gi_X5_isSquare : Cond.instanceMethod yX5_isSquare ∈ GW := GW_in 707 rfl rfl
set_option maxRecDepth 50000 in
theorem gs_X5_isSquare : Cond.selects RX5 yX5_isSquare yX5_isSquare ∈ GW := GW_in 708 rfl rfl
theorem mf_X5_isSquare : MF yX5_isSquare cX5_isSquare 2 (some .boolean) 1 := ⟨⟨by decide +kernel, by decide +kernel, by decide +kernel⟩, gc_X5_isSquare, gz_RX5, by decide⟩
set_option maxRecDepth 50000 in
theorem gc_X11_piece : Cond.code yX11_piece cX11_piece 3 (some .int) ∈ GW := GW_in 714 rfl rfl
set_option maxRecDepth 50000 in
theorem gi_X11_piece : Cond.instanceMethod yX11_piece ∈ GW := GW_in 712 rfl rfl
set_option maxRecDepth 50000 in
theorem gs_X11_piece : Cond.selects RX11 yX11_piece yX11_piece ∈ GW := GW_in 713 rfl rfl
theorem mf_X11_piece : MF yX11_piece cX11_piece 3 (some .int) 2 := ⟨⟨by decide +kernel, by decide +kernel, by decide +kernel⟩, gc_X11_piece, gz_RX11, by decide⟩
set_option maxRecDepth 50000 in
theorem gc_X5_isPiece : Cond.code yX5_isPiece cX5_isPiece 2 (some .boolean) ∈ GW := GW_in 718 rfl rfl
set_option maxRecDepth 50000 in
theorem gi_X5_isPiece : Cond.instanceMethod yX5_isPiece ∈ GW := GW_in 716 rfl rfl
set_option maxRecDepth 50000 in
theorem gs_X5_isPiece : Cond.selects RX5 yX5_isPiece yX5_isPiece ∈ GW := GW_in 717 rfl rfl
theorem mf_X5_isPiece : MF yX5_isPiece cX5_isPiece 2 (some .boolean) 1 := ⟨⟨by decide +kernel, by decide +kernel, by decide +kernel⟩, gc_X5_isPiece, gz_RX5, by decide⟩
set_option maxRecDepth 50000 in
theorem gc_X8_oilOf : Cond.code yX8_oilOf cX8_oilOf 2 (some .int) ∈ GW := GW_in 725 rfl rfl
set_option maxRecDepth 50000 in
theorem gi_X8_oilOf : Cond.instanceMethod yX8_oilOf ∈ GW := GW_in 723 rfl rfl
set_option maxRecDepth 50000 in
theorem gs_X8_oilOf : Cond.selects RX8 yX8_oilOf yX8_oilOf ∈ GW := GW_in 724 rfl rfl
theorem mf_X8_oilOf : MF yX8_oilOf cX8_oilOf 2 (some .int) 1 := ⟨⟨by decide +kernel, by decide +kernel, by decide +kernel⟩, gc_X8_oilOf, gz_RX8, by decide⟩
set_option maxRecDepth 50000 in
theorem gc_X11_odd : Cond.code yX11_odd cX11_odd 2 (some .int) ∈ GW := GW_in 729 rfl rfl
set_option maxRecDepth 50000 in
theorem gi_X11_odd : Cond.instanceMethod yX11_odd ∈ GW := GW_in 727 rfl rfl
set_option maxRecDepth 50000 in
theorem gs_X11_odd : Cond.selects RX11 yX11_odd yX11_odd ∈ GW := GW_in 728 rfl rfl
theorem mf_X11_odd : MF yX11_odd cX11_odd 2 (some .int) 1 := ⟨⟨by decide +kernel, by decide +kernel, by decide +kernel⟩, gc_X11_odd, gz_RX11, by decide⟩
set_option maxRecDepth 50000 in
theorem gc_X11_isWind : Cond.code yX11_isWind cX11_isWind 1 (some .boolean) ∈ GW := GW_in 732 rfl rfl
set_option maxRecDepth 50000 in
theorem gt_X11_isWind : Cond.static yX11_isWind ∈ GW := GW_in 731 rfl rfl
theorem mf_X11_isWind : MF yX11_isWind cX11_isWind 1 (some .boolean) 1 := ⟨⟨by decide +kernel, by decide +kernel, by decide +kernel⟩, gc_X11_isWind, gz_RX11, by decide⟩
set_option maxRecDepth 50000 in
theorem gc_X5_oddsOf : Cond.code yX5_oddsOf cX5_oddsOf 2 (some .int) ∈ GW := GW_in 736 rfl rfl
set_option maxRecDepth 50000 in
theorem gi_X5_oddsOf : Cond.instanceMethod yX5_oddsOf ∈ GW := GW_in 734 rfl rfl
set_option maxRecDepth 50000 in
theorem gs_X5_oddsOf : Cond.selects RX5 yX5_oddsOf yX5_oddsOf ∈ GW := GW_in 735 rfl rfl
theorem mf_X5_oddsOf : MF yX5_oddsOf cX5_oddsOf 2 (some .int) 1 := ⟨⟨by decide +kernel, by decide +kernel, by decide +kernel⟩, gc_X5_oddsOf, gz_RX5, by decide⟩
set_option maxRecDepth 50000 in
theorem gc_X11_oil : Cond.code yX11_oil cX11_oil 4 (some .int) ∈ GW := GW_in 740 rfl rfl
set_option maxRecDepth 50000 in
theorem gi_X11_oil : Cond.instanceMethod yX11_oil ∈ GW := GW_in 738 rfl rfl
set_option maxRecDepth 50000 in
theorem gs_X11_oil : Cond.selects RX11 yX11_oil yX11_oil ∈ GW := GW_in 739 rfl rfl
theorem mf_X11_oil : MF yX11_oil cX11_oil 4 (some .int) 2 := ⟨⟨by decide +kernel, by decide +kernel, by decide +kernel⟩, gc_X11_oil, gz_RX11, by decide⟩
set_option maxRecDepth 50000 in
theorem gc_X11_put : Cond.code yX11_put cX11_put 5 (some .int) ∈ GW := GW_in 745 rfl rfl
set_option maxRecDepth 50000 in
theorem gi_X11_put : Cond.instanceMethod yX11_put ∈ GW := GW_in 743 rfl rfl
set_option maxRecDepth 50000 in
theorem gs_X11_put : Cond.selects RX11 yX11_put yX11_put ∈ GW := GW_in 744 rfl rfl
theorem mf_X11_put : MF yX11_put cX11_put 5 (some .int) 2 := ⟨⟨by decide +kernel, by decide +kernel, by decide +kernel⟩, gc_X11_put, gz_RX11, by decide⟩
set_option maxRecDepth 50000 in
theorem gc_X11_steeple : Cond.code yX11_steeple cX11_steeple 4 (some .int) ∈ GW := GW_in 751 rfl rfl
set_option maxRecDepth 50000 in
theorem gi_X11_steeple : Cond.instanceMethod yX11_steeple ∈ GW := GW_in 749 rfl rfl
set_option maxRecDepth 50000 in
theorem gs_X11_steeple : Cond.selects RX11 yX11_steeple yX11_steeple ∈ GW := GW_in 750 rfl rfl
theorem mf_X11_steeple : MF yX11_steeple cX11_steeple 4 (some .int) 2 := ⟨⟨by decide +kernel, by decide +kernel, by decide +kernel⟩, gc_X11_steeple, gz_RX11, by decide⟩
set_option maxRecDepth 50000 in
theorem gc_X11_weigh : Cond.code yX11_weigh cX11_weigh 4 (some .int) ∈ GW := GW_in 756 rfl rfl
set_option maxRecDepth 50000 in
theorem gi_X11_weigh : Cond.instanceMethod yX11_weigh ∈ GW := GW_in 754 rfl rfl
set_option maxRecDepth 50000 in
theorem gs_X11_weigh : Cond.selects RX11 yX11_weigh yX11_weigh ∈ GW := GW_in 755 rfl rfl
theorem mf_X11_weigh : MF yX11_weigh cX11_weigh 4 (some .int) 2 := ⟨⟨by decide +kernel, by decide +kernel, by decide +kernel⟩, gc_X11_weigh, gz_RX11, by decide⟩
set_option maxRecDepth 50000 in
theorem gc_X11_turn : Cond.code yX11_turn cX11_turn 3 (some .int) ∈ GW := GW_in 762 rfl rfl
set_option maxRecDepth 50000 in
theorem gi_X11_turn : Cond.instanceMethod yX11_turn ∈ GW := GW_in 760 rfl rfl
set_option maxRecDepth 50000 in
theorem gs_X11_turn : Cond.selects RX11 yX11_turn yX11_turn ∈ GW := GW_in 761 rfl rfl
theorem mf_X11_turn : MF yX11_turn cX11_turn 3 (some .int) 1 := ⟨⟨by decide +kernel, by decide +kernel, by decide +kernel⟩, gc_X11_turn, gz_RX11, by decide⟩
set_option maxRecDepth 50000 in
theorem gc_X11_moves : Cond.code yX11_moves cX11_moves 2 (some .int) ∈ GW := GW_in 767 rfl rfl
set_option maxRecDepth 50000 in
theorem gi_X11_moves : Cond.instanceMethod yX11_moves ∈ GW := GW_in 765 rfl rfl
set_option maxRecDepth 50000 in
theorem gs_X11_moves : Cond.selects RX11 yX11_moves yX11_moves ∈ GW := GW_in 766 rfl rfl
theorem mf_X11_moves : MF yX11_moves cX11_moves 2 (some .int) 1 := ⟨⟨by decide +kernel, by decide +kernel, by decide +kernel⟩, gc_X11_moves, gz_RX11, by decide⟩
set_option maxRecDepth 50000 in
theorem gc_X11_listNow : Cond.code yX11_listNow cX11_listNow 2 (some .int) ∈ GW := GW_in 771 rfl rfl
set_option maxRecDepth 50000 in
theorem gi_X11_listNow : Cond.instanceMethod yX11_listNow ∈ GW := GW_in 770 rfl rfl
theorem gs_X11_listNow : Cond.selects RX11 yX11_listNow yX11_listNow ∈ GW := GW_in 18 rfl rfl
theorem mf_X11_listNow : MF yX11_listNow cX11_listNow 2 (some .int) 1 := ⟨⟨by decide +kernel, by decide +kernel, by decide +kernel⟩, gc_X11_listNow, gz_RX11, by decide⟩
set_option maxRecDepth 50000 in
theorem gc_X8_listMoves : Cond.code yX8_listMoves cX8_listMoves 8 (some .int) ∈ GW := GW_in 775 rfl rfl
set_option maxRecDepth 50000 in
theorem gi_X8_listMoves : Cond.instanceMethod yX8_listMoves ∈ GW := GW_in 773 rfl rfl
set_option maxRecDepth 50000 in
theorem gs_X8_listMoves : Cond.selects RX8 yX8_listMoves yX8_listMoves ∈ GW := GW_in 774 rfl rfl
theorem mf_X8_listMoves : MF yX8_listMoves cX8_listMoves 8 (some .int) 3 := ⟨⟨by decide +kernel, by decide +kernel, by decide +kernel⟩, gc_X8_listMoves, gz_RX8, by decide⟩
set_option maxRecDepth 50000 in
theorem gc_X8_targets : Cond.code yX8_targets cX8_targets 6 (some .int) ∈ GW := GW_in 780 rfl rfl
set_option maxRecDepth 50000 in
theorem gi_X8_targets : Cond.instanceMethod yX8_targets ∈ GW := GW_in 779 rfl rfl
theorem gs_X8_targets : Cond.selects RX8 yX8_targets yX8_targets ∈ GW := GW_in 19 rfl rfl
theorem mf_X8_targets : MF yX8_targets cX8_targets 6 (some .int) 3 := ⟨⟨by decide +kernel, by decide +kernel, by decide +kernel⟩, gc_X8_targets, gz_RX8, by decide⟩
set_option maxRecDepth 50000 in
theorem gc_X8_run : Cond.code yX8_run cX8_run 8 (some .int) ∈ GW := GW_in 786 rfl rfl
set_option maxRecDepth 50000 in
theorem gi_X8_run : Cond.instanceMethod yX8_run ∈ GW := GW_in 785 rfl rfl
theorem gs_X8_run : Cond.selects RX8 yX8_run yX8_run ∈ GW := GW_in 20 rfl rfl
theorem mf_X8_run : MF yX8_run cX8_run 8 (some .int) 3 := ⟨⟨by decide +kernel, by decide +kernel, by decide +kernel⟩, gc_X8_run, gz_RX8, by decide⟩
set_option maxRecDepth 50000 in
theorem gc_X5_nextSquare : Cond.code yX5_nextSquare cX5_nextSquare 4 (some .int) ∈ GW := GW_in 790 rfl rfl
set_option maxRecDepth 50000 in
theorem gi_X5_nextSquare : Cond.instanceMethod yX5_nextSquare ∈ GW := GW_in 788 rfl rfl
set_option maxRecDepth 50000 in
theorem gs_X5_nextSquare : Cond.selects RX5 yX5_nextSquare yX5_nextSquare ∈ GW := GW_in 789 rfl rfl
theorem mf_X5_nextSquare : MF yX5_nextSquare cX5_nextSquare 4 (some .int) 2 := ⟨⟨by decide +kernel, by decide +kernel, by decide +kernel⟩, gc_X5_nextSquare, gz_RX5, by decide⟩
set_option maxRecDepth 50000 in
theorem gc_X8_hop : Cond.code yX8_hop cX8_hop 7 (some .int) ∈ GW := GW_in 794 rfl rfl
set_option maxRecDepth 50000 in
theorem gi_X8_hop : Cond.instanceMethod yX8_hop ∈ GW := GW_in 793 rfl rfl
theorem gs_X8_hop : Cond.selects RX8 yX8_hop yX8_hop ∈ GW := GW_in 21 rfl rfl
theorem mf_X8_hop : MF yX8_hop cX8_hop 7 (some .int) 3 := ⟨⟨by decide +kernel, by decide +kernel, by decide +kernel⟩, gc_X8_hop, gz_RX8, by decide⟩
set_option maxRecDepth 50000 in
theorem gc_X11_move : Cond.code yX11_move cX11_move 4 (some .int) ∈ GW := GW_in 798 rfl rfl
set_option maxRecDepth 50000 in
theorem gi_X11_move : Cond.instanceMethod yX11_move ∈ GW := GW_in 796 rfl rfl
set_option maxRecDepth 50000 in
theorem gs_X11_move : Cond.selects RX11 yX11_move yX11_move ∈ GW := GW_in 797 rfl rfl
theorem mf_X11_move : MF yX11_move cX11_move 4 (some .int) 2 := ⟨⟨by decide +kernel, by decide +kernel, by decide +kernel⟩, gc_X11_move, gz_RX11, by decide⟩
set_option maxRecDepth 50000 in
theorem gc_X9_moveAt : Cond.code yX9_moveAt cX9_moveAt 2 (some .int) ∈ GW := GW_in 802 rfl rfl
set_option maxRecDepth 50000 in
theorem gi_X9_moveAt : Cond.instanceMethod yX9_moveAt ∈ GW := GW_in 800 rfl rfl
set_option maxRecDepth 50000 in
theorem gs_X9_moveAt : Cond.selects RX9 yX9_moveAt yX9_moveAt ∈ GW := GW_in 801 rfl rfl
theorem mf_X9_moveAt : MF yX9_moveAt cX9_moveAt 2 (some .int) 1 := ⟨⟨by decide +kernel, by decide +kernel, by decide +kernel⟩, gc_X9_moveAt, gz_RX9, by decide⟩
set_option maxRecDepth 50000 in
theorem gc_X11_go : Cond.code yX11_go cX11_go 3 (some .int) ∈ GW := GW_in 806 rfl rfl
set_option maxRecDepth 50000 in
theorem gi_X11_go : Cond.instanceMethod yX11_go ∈ GW := GW_in 804 rfl rfl
set_option maxRecDepth 50000 in
theorem gs_X11_go : Cond.selects RX11 yX11_go yX11_go ∈ GW := GW_in 805 rfl rfl
theorem mf_X11_go : MF yX11_go cX11_go 3 (some .int) 2 := ⟨⟨by decide +kernel, by decide +kernel, by decide +kernel⟩, gc_X11_go, gz_RX11, by decide⟩
set_option maxRecDepth 50000 in
theorem gc_X11_playNow : Cond.code yX11_playNow cX11_playNow 6 (some .int) ∈ GW := GW_in 810 rfl rfl
set_option maxRecDepth 50000 in
theorem gi_X11_playNow : Cond.instanceMethod yX11_playNow ∈ GW := GW_in 809 rfl rfl
theorem gs_X11_playNow : Cond.selects RX11 yX11_playNow yX11_playNow ∈ GW := GW_in 22 rfl rfl
theorem mf_X11_playNow : MF yX11_playNow cX11_playNow 6 (some .int) 2 := ⟨⟨by decide +kernel, by decide +kernel, by decide +kernel⟩, gc_X11_playNow, gz_RX11, by decide⟩
set_option maxRecDepth 50000 in
theorem gc_X11_isOver : Cond.code yX11_isOver cX11_isOver 1 (some .boolean) ∈ GW := GW_in 814 rfl rfl
set_option maxRecDepth 50000 in
theorem gi_X11_isOver : Cond.instanceMethod yX11_isOver ∈ GW := GW_in 813 rfl rfl
theorem gs_X11_isOver : Cond.selects RX11 yX11_isOver yX11_isOver ∈ GW := GW_in 23 rfl rfl
theorem mf_X11_isOver : MF yX11_isOver cX11_isOver 1 (some .boolean) 0 := ⟨⟨by decide +kernel, by decide +kernel, by decide +kernel⟩, gc_X11_isOver, gz_RX11, by decide⟩
set_option maxRecDepth 50000 in
theorem gc_X8_play : Cond.code yX8_play cX8_play 6 (some .int) ∈ GW := GW_in 818 rfl rfl
set_option maxRecDepth 50000 in
theorem gi_X8_play : Cond.instanceMethod yX8_play ∈ GW := GW_in 816 rfl rfl
set_option maxRecDepth 50000 in
theorem gs_X8_play : Cond.selects RX8 yX8_play yX8_play ∈ GW := GW_in 817 rfl rfl
theorem mf_X8_play : MF yX8_play cX8_play 6 (some .int) 3 := ⟨⟨by decide +kernel, by decide +kernel, by decide +kernel⟩, gc_X8_play, gz_RX8, by decide⟩
set_option maxRecDepth 50000 in
theorem gc_X8_burn : Cond.code yX8_burn cX8_burn 5 none ∈ GW := GW_in 824 rfl rfl
set_option maxRecDepth 50000 in
theorem gi_X8_burn : Cond.instanceMethod yX8_burn ∈ GW := GW_in 823 rfl rfl
theorem gs_X8_burn : Cond.selects RX8 yX8_burn yX8_burn ∈ GW := GW_in 24 rfl rfl
theorem mf_X8_burn : MF yX8_burn cX8_burn 5 none 2 := ⟨⟨by decide +kernel, by decide +kernel, by decide +kernel⟩, gc_X8_burn, gz_RX8, by decide⟩
set_option maxRecDepth 50000 in
theorem gc_X11_chance : Cond.code yX11_chance cX11_chance 6 (some .long) ∈ GW := GW_in 829 rfl rfl
set_option maxRecDepth 50000 in
theorem gi_X11_chance : Cond.instanceMethod yX11_chance ∈ GW := GW_in 827 rfl rfl
set_option maxRecDepth 50000 in
theorem gs_X11_chance : Cond.selects RX11 yX11_chance yX11_chance ∈ GW := GW_in 828 rfl rfl
theorem mf_X11_chance : MF yX11_chance cX11_chance 6 (some .long) 3 := ⟨⟨by decide +kernel, by decide +kernel, by decide +kernel⟩, gc_X11_chance, gz_RX11, by decide⟩
set_option maxRecDepth 50000 in
theorem gc_X11_isAhead : Cond.code yX11_isAhead cX11_isAhead 1 (some .boolean) ∈ GW := GW_in 832 rfl rfl
set_option maxRecDepth 50000 in
theorem gt_X11_isAhead : Cond.static yX11_isAhead ∈ GW := GW_in 831 rfl rfl
theorem mf_X11_isAhead : MF yX11_isAhead cX11_isAhead 1 (some .boolean) 1 := ⟨⟨by decide +kernel, by decide +kernel, by decide +kernel⟩, gc_X11_isAhead, gz_RX11, by decide⟩
set_option maxRecDepth 50000 in
theorem gc_X11_isPart : Cond.code yX11_isPart cX11_isPart 1 (some .boolean) ∈ GW := GW_in 835 rfl rfl
set_option maxRecDepth 50000 in
theorem gt_X11_isPart : Cond.static yX11_isPart ∈ GW := GW_in 834 rfl rfl
theorem mf_X11_isPart : MF yX11_isPart cX11_isPart 1 (some .boolean) 1 := ⟨⟨by decide +kernel, by decide +kernel, by decide +kernel⟩, gc_X11_isPart, gz_RX11, by decide⟩
set_option maxRecDepth 50000 in
theorem gc_X11_likely : Cond.code yX11_likely cX11_likely 9 (some .long) ∈ GW := GW_in 840 rfl rfl
set_option maxRecDepth 50000 in
theorem gt_X11_likely : Cond.static yX11_likely ∈ GW := GW_in 839 rfl rfl
theorem mf_X11_likely : MF yX11_likely cX11_likely 9 (some .long) 4 := ⟨⟨by decide +kernel, by decide +kernel, by decide +kernel⟩, gc_X11_likely, gz_RX11, by decide⟩
set_option maxRecDepth 50000 in
theorem gc_X11_power : Cond.code yX11_power cX11_power 5 (some .long) ∈ GW := GW_in 843 rfl rfl
set_option maxRecDepth 50000 in
theorem gt_X11_power : Cond.static yX11_power ∈ GW := GW_in 842 rfl rfl
theorem mf_X11_power : MF yX11_power cX11_power 5 (some .long) 2 := ⟨⟨by decide +kernel, by decide +kernel, by decide +kernel⟩, gc_X11_power, gz_RX11, by decide⟩
set_option maxRecDepth 50000 in
theorem gc_X11_likelyBy : Cond.code yX11_likelyBy cX11_likelyBy 14 (some .long) ∈ GW := GW_in 846 rfl rfl
set_option maxRecDepth 50000 in
theorem gt_X11_likelyBy : Cond.static yX11_likelyBy ∈ GW := GW_in 845 rfl rfl
theorem mf_X11_likelyBy : MF yX11_likelyBy cX11_likelyBy 14 (some .long) 5 := ⟨⟨by decide +kernel, by decide +kernel, by decide +kernel⟩, gc_X11_likelyBy, gz_RX11, by decide⟩
set_option maxRecDepth 50000 in
theorem gc_X9_chooseKing : Cond.code yX9_chooseKing cX9_chooseKing 5 (some .boolean) ∈ GW := GW_in 850 rfl rfl
set_option maxRecDepth 50000 in
theorem gi_X9_chooseKing : Cond.instanceMethod yX9_chooseKing ∈ GW := GW_in 848 rfl rfl
set_option maxRecDepth 50000 in
theorem gs_X9_chooseKing : Cond.selects RX9 yX9_chooseKing yX9_chooseKing ∈ GW := GW_in 849 rfl rfl
theorem mf_X9_chooseKing : MF yX9_chooseKing cX9_chooseKing 5 (some .boolean) 2 := ⟨⟨by decide +kernel, by decide +kernel, by decide +kernel⟩, gc_X9_chooseKing, gz_RX9, by decide⟩
set_option maxRecDepth 50000 in
theorem gc_X8_kingOf : Cond.code yX8_kingOf cX8_kingOf 4 (some .int) ∈ GW := GW_in 854 rfl rfl
set_option maxRecDepth 50000 in
theorem gi_X8_kingOf : Cond.instanceMethod yX8_kingOf ∈ GW := GW_in 852 rfl rfl
set_option maxRecDepth 50000 in
theorem gs_X8_kingOf : Cond.selects RX8 yX8_kingOf yX8_kingOf ∈ GW := GW_in 853 rfl rfl
theorem mf_X8_kingOf : MF yX8_kingOf cX8_kingOf 4 (some .int) 2 := ⟨⟨by decide +kernel, by decide +kernel, by decide +kernel⟩, gc_X8_kingOf, gz_RX8, by decide⟩
set_option maxRecDepth 50000 in
theorem gc_X9_tread : Cond.code yX9_tread cX9_tread 4 none ∈ GW := GW_in 859 rfl rfl
set_option maxRecDepth 50000 in
theorem gi_X9_tread : Cond.instanceMethod yX9_tread ∈ GW := GW_in 857 rfl rfl
set_option maxRecDepth 50000 in
theorem gs_X9_tread : Cond.selects RX9 yX9_tread yX9_tread ∈ GW := GW_in 858 rfl rfl
theorem mf_X9_tread : MF yX9_tread cX9_tread 4 none 3 := ⟨⟨by decide +kernel, by decide +kernel, by decide +kernel⟩, gc_X9_tread, gz_RX9, by decide⟩
set_option maxRecDepth 50000 in
theorem gc_X11_part : Cond.code yX11_part cX11_part 7 (some .long) ∈ GW := GW_in 864 rfl rfl
set_option maxRecDepth 50000 in
theorem gt_X11_part : Cond.static yX11_part ∈ GW := GW_in 863 rfl rfl
theorem mf_X11_part : MF yX11_part cX11_part 7 (some .long) 3 := ⟨⟨by decide +kernel, by decide +kernel, by decide +kernel⟩, gc_X11_part, gz_RX11, by decide⟩
set_option maxRecDepth 50000 in
theorem gc_X11_greatestShared : Cond.code yX11_greatestShared cX11_greatestShared 11 (some .long) ∈ GW := GW_in 867 rfl rfl
set_option maxRecDepth 50000 in
theorem gt_X11_greatestShared : Cond.static yX11_greatestShared ∈ GW := GW_in 866 rfl rfl
theorem mf_X11_greatestShared : MF yX11_greatestShared cX11_greatestShared 11 (some .long) 2 := ⟨⟨by decide +kernel, by decide +kernel, by decide +kernel⟩, gc_X11_greatestShared, gz_RX11, by decide⟩
set_option maxRecDepth 50000 in
theorem gc_X11_byWind : Cond.code yX11_byWind cX11_byWind 4 (some .long) ∈ GW := GW_in 871 rfl rfl
set_option maxRecDepth 50000 in
theorem gi_X11_byWind : Cond.instanceMethod yX11_byWind ∈ GW := GW_in 869 rfl rfl
set_option maxRecDepth 50000 in
theorem gs_X11_byWind : Cond.selects RX11 yX11_byWind yX11_byWind ∈ GW := GW_in 870 rfl rfl
theorem mf_X11_byWind : MF yX11_byWind cX11_byWind 4 (some .long) 3 := ⟨⟨by decide +kernel, by decide +kernel, by decide +kernel⟩, gc_X11_byWind, gz_RX11, by decide⟩
set_option maxRecDepth 50000 in
theorem gc_X11_likelyNow : Cond.code yX11_likelyNow cX11_likelyNow 3 (some .long) ∈ GW := GW_in 876 rfl rfl
set_option maxRecDepth 50000 in
theorem gi_X11_likelyNow : Cond.instanceMethod yX11_likelyNow ∈ GW := GW_in 875 rfl rfl
theorem gs_X11_likelyNow : Cond.selects RX11 yX11_likelyNow yX11_likelyNow ∈ GW := GW_in 25 rfl rfl
theorem mf_X11_likelyNow : MF yX11_likelyNow cX11_likelyNow 3 (some .long) 2 := ⟨⟨by decide +kernel, by decide +kernel, by decide +kernel⟩, gc_X11_likelyNow, gz_RX11, by decide⟩
set_option maxRecDepth 50000 in
theorem gc_X11_best : Cond.code yX11_best cX11_best 3 (some .int) ∈ GW := GW_in 880 rfl rfl
set_option maxRecDepth 50000 in
theorem gi_X11_best : Cond.instanceMethod yX11_best ∈ GW := GW_in 878 rfl rfl
set_option maxRecDepth 50000 in
theorem gs_X11_best : Cond.selects RX11 yX11_best yX11_best ∈ GW := GW_in 879 rfl rfl
theorem mf_X11_best : MF yX11_best cX11_best 3 (some .int) 2 := ⟨⟨by decide +kernel, by decide +kernel, by decide +kernel⟩, gc_X11_best, gz_RX11, by decide⟩
set_option maxRecDepth 50000 in
theorem gc_X11_hope : Cond.code yX11_hope cX11_hope 8 (some .int) ∈ GW := GW_in 884 rfl rfl
set_option maxRecDepth 50000 in
theorem gi_X11_hope : Cond.instanceMethod yX11_hope ∈ GW := GW_in 882 rfl rfl
set_option maxRecDepth 50000 in
theorem gs_X11_hope : Cond.selects RX11 yX11_hope yX11_hope ∈ GW := GW_in 883 rfl rfl
theorem mf_X11_hope : MF yX11_hope cX11_hope 8 (some .int) 1 := ⟨⟨by decide +kernel, by decide +kernel, by decide +kernel⟩, gc_X11_hope, gz_RX11, by decide⟩
set_option maxRecDepth 50000 in
theorem gc_X11_since : Cond.code yX11_since cX11_since 7 (some .int) ∈ GW := GW_in 888 rfl rfl
set_option maxRecDepth 50000 in
theorem gi_X11_since : Cond.instanceMethod yX11_since ∈ GW := GW_in 886 rfl rfl
set_option maxRecDepth 50000 in
theorem gs_X11_since : Cond.selects RX11 yX11_since yX11_since ∈ GW := GW_in 887 rfl rfl
theorem mf_X11_since : MF yX11_since cX11_since 7 (some .int) 3 := ⟨⟨by decide +kernel, by decide +kernel, by decide +kernel⟩, gc_X11_since, gz_RX11, by decide⟩
set_option maxRecDepth 50000 in
theorem gc_X11_isImage : Cond.code yX11_isImage cX11_isImage 1 (some .boolean) ∈ GW := GW_in 891 rfl rfl
set_option maxRecDepth 50000 in
theorem gt_X11_isImage : Cond.static yX11_isImage ∈ GW := GW_in 890 rfl rfl
theorem mf_X11_isImage : MF yX11_isImage cX11_isImage 1 (some .boolean) 1 := ⟨⟨by decide +kernel, by decide +kernel, by decide +kernel⟩, gc_X11_isImage, gz_RX11, by decide⟩
set_option maxRecDepth 50000 in
theorem gc_X11_isAsked : Cond.code yX11_isAsked cX11_isAsked 1 (some .boolean) ∈ GW := GW_in 894 rfl rfl
set_option maxRecDepth 50000 in
theorem gt_X11_isAsked : Cond.static yX11_isAsked ∈ GW := GW_in 893 rfl rfl
theorem mf_X11_isAsked : MF yX11_isAsked cX11_isAsked 1 (some .boolean) 1 := ⟨⟨by decide +kernel, by decide +kernel, by decide +kernel⟩, gc_X11_isAsked, gz_RX11, by decide⟩
set_option maxRecDepth 50000 in
theorem gc_X11_imageAt : Cond.code yX11_imageAt cX11_imageAt 2 (some (.object "WeatherChess$Game")) ∈ GW := GW_in 898 rfl rfl
set_option maxRecDepth 50000 in
theorem gi_X11_imageAt : Cond.instanceMethod yX11_imageAt ∈ GW := GW_in 897 rfl rfl
theorem gs_X11_imageAt : Cond.selects RX11 yX11_imageAt yX11_imageAt ∈ GW := GW_in 26 rfl rfl
theorem mf_X11_imageAt : MF yX11_imageAt cX11_imageAt 2 (some (.object "WeatherChess$Game")) 1 := ⟨⟨by decide +kernel, by decide +kernel, by decide +kernel⟩, gc_X11_imageAt, gz_RX11, by decide⟩
set_option maxRecDepth 50000 in
theorem gc_X4_aim : Cond.code yX4_aim cX4_aim 3 none ∈ GW := GW_in 902 rfl rfl
set_option maxRecDepth 50000 in
theorem gi_X4_aim : Cond.instanceMethod yX4_aim ∈ GW := GW_in 900 rfl rfl
set_option maxRecDepth 50000 in
theorem gs_X4_aim : Cond.selects RX4 yX4_aim yX4_aim ∈ GW := GW_in 901 rfl rfl
theorem mf_X4_aim : MF yX4_aim cX4_aim 3 none 2 := ⟨⟨by decide +kernel, by decide +kernel, by decide +kernel⟩, gc_X4_aim, gz_RX4, by decide⟩
set_option maxRecDepth 50000 in
theorem gc_X6_find : Cond.code yX6_find cX6_find 6 (some .int) ∈ GW := GW_in 906 rfl rfl
set_option maxRecDepth 50000 in
theorem gi_X6_find : Cond.instanceMethod yX6_find ∈ GW := GW_in 904 rfl rfl
set_option maxRecDepth 50000 in
theorem gs_X6_find : Cond.selects RX6 yX6_find yX6_find ∈ GW := GW_in 905 rfl rfl
theorem mf_X6_find : MF yX6_find cX6_find 6 (some .int) 5 := ⟨⟨by decide +kernel, by decide +kernel, by decide +kernel⟩, gc_X6_find, gz_RX6, by decide⟩
set_option maxRecDepth 50000 in
theorem gc_X11_countRows : Cond.code yX11_countRows cX11_countRows 9 (some .int) ∈ GW := GW_in 910 rfl rfl
set_option maxRecDepth 50000 in
theorem gt_X11_countRows : Cond.static yX11_countRows ∈ GW := GW_in 909 rfl rfl
theorem mf_X11_countRows : MF yX11_countRows cX11_countRows 9 (some .int) 5 := ⟨⟨by decide +kernel, by decide +kernel, by decide +kernel⟩, gc_X11_countRows, gz_RX11, by decide⟩
set_option maxRecDepth 50000 in
theorem gc_X0_mayCome : Cond.code yX0_mayCome cX0_mayCome 5 (some .boolean) ∈ GW := GW_in 916 rfl rfl
set_option maxRecDepth 50000 in
theorem gi_X0_mayCome : Cond.instanceMethod yX0_mayCome ∈ GW := GW_in 915 rfl rfl
theorem mf_X0_mayCome : MF yX0_mayCome cX0_mayCome 5 (some .boolean) 2 := ⟨⟨by decide +kernel, by decide +kernel, by decide +kernel⟩, gc_X0_mayCome, gz_RX0, by decide⟩
set_option maxRecDepth 50000 in
theorem gc_J6_bitCount_0f7a4 : Cond.code yJ6_bitCount_0f7a4 cJ6_bitCount_0f7a4 1 (some .int) ∈ GW := GW_in 920 rfl rfl
set_option maxRecDepth 50000 in
theorem gt_J6_bitCount_0f7a4 : Cond.static yJ6_bitCount_0f7a4 ∈ GW := GW_in 919 rfl rfl
theorem mf_J6_bitCount_0f7a4 : MF yJ6_bitCount_0f7a4 cJ6_bitCount_0f7a4 1 (some .int) 1 := ⟨⟨by decide +kernel, by decide +kernel, by decide +kernel⟩, gc_J6_bitCount_0f7a4, gz_RJ6, by decide⟩
set_option maxRecDepth 50000 in
theorem gc_X4_mayCome : Cond.code yX4_mayCome cX4_mayCome 6 (some .boolean) ∈ GW := GW_in 926 rfl rfl
set_option maxRecDepth 50000 in
theorem gi_X4_mayCome : Cond.instanceMethod yX4_mayCome ∈ GW := GW_in 925 rfl rfl
theorem mf_X4_mayCome : MF yX4_mayCome cX4_mayCome 6 (some .boolean) 2 := ⟨⟨by decide +kernel, by decide +kernel, by decide +kernel⟩, gc_X4_mayCome, gz_RX4, by decide⟩
set_option maxRecDepth 50000 in
theorem gc_X6_note : Cond.code yX6_note cX6_note 5 none ∈ GW := GW_in 932 rfl rfl
set_option maxRecDepth 50000 in
theorem gi_X6_note : Cond.instanceMethod yX6_note ∈ GW := GW_in 930 rfl rfl
set_option maxRecDepth 50000 in
theorem gs_X6_note : Cond.selects RX6 yX6_note yX6_note ∈ GW := GW_in 931 rfl rfl
theorem mf_X6_note : MF yX6_note cX6_note 5 none 1 := ⟨⟨by decide +kernel, by decide +kernel, by decide +kernel⟩, gc_X6_note, gz_RX6, by decide⟩
set_option maxRecDepth 50000 in
theorem gc_X6_firstTurn : Cond.code yX6_firstTurn cX6_firstTurn 2 (some .int) ∈ GW := GW_in 940 rfl rfl
set_option maxRecDepth 50000 in
theorem gi_X6_firstTurn : Cond.instanceMethod yX6_firstTurn ∈ GW := GW_in 938 rfl rfl
set_option maxRecDepth 50000 in
theorem gs_X6_firstTurn : Cond.selects RX6 yX6_firstTurn yX6_firstTurn ∈ GW := GW_in 939 rfl rfl
theorem mf_X6_firstTurn : MF yX6_firstTurn cX6_firstTurn 2 (some .int) 1 := ⟨⟨by decide +kernel, by decide +kernel, by decide +kernel⟩, gc_X6_firstTurn, gz_RX6, by decide⟩
set_option maxRecDepth 50000 in
theorem gc_X11_see : Cond.code yX11_see cX11_see 3 (some .int) ∈ GW := GW_in 944 rfl rfl
set_option maxRecDepth 50000 in
theorem gi_X11_see : Cond.instanceMethod yX11_see ∈ GW := GW_in 942 rfl rfl
set_option maxRecDepth 50000 in
theorem gs_X11_see : Cond.selects RX11 yX11_see yX11_see ∈ GW := GW_in 943 rfl rfl
theorem mf_X11_see : MF yX11_see cX11_see 3 (some .int) 2 := ⟨⟨by decide +kernel, by decide +kernel, by decide +kernel⟩, gc_X11_see, gz_RX11, by decide⟩
set_option maxRecDepth 50000 in
theorem gc_X3_addSeen : Cond.code yX3_addSeen cX3_addSeen 3 (some .boolean) ∈ GW := GW_in 948 rfl rfl
set_option maxRecDepth 50000 in
theorem gi_X3_addSeen : Cond.instanceMethod yX3_addSeen ∈ GW := GW_in 946 rfl rfl
set_option maxRecDepth 50000 in
theorem gs_X3_addSeen : Cond.selects RX3 yX3_addSeen yX3_addSeen ∈ GW := GW_in 947 rfl rfl
theorem mf_X3_addSeen : MF yX3_addSeen cX3_addSeen 3 (some .boolean) 2 := ⟨⟨by decide +kernel, by decide +kernel, by decide +kernel⟩, gc_X3_addSeen, gz_RX3, by decide⟩
set_option maxRecDepth 50000 in
theorem gc_X11_forget : Cond.code yX11_forget cX11_forget 3 (some .int) ∈ GW := GW_in 952 rfl rfl
set_option maxRecDepth 50000 in
theorem gi_X11_forget : Cond.instanceMethod yX11_forget ∈ GW := GW_in 950 rfl rfl
set_option maxRecDepth 50000 in
theorem gs_X11_forget : Cond.selects RX11 yX11_forget yX11_forget ∈ GW := GW_in 951 rfl rfl
theorem mf_X11_forget : MF yX11_forget cX11_forget 3 (some .int) 1 := ⟨⟨by decide +kernel, by decide +kernel, by decide +kernel⟩, gc_X11_forget, gz_RX11, by decide⟩
set_option maxRecDepth 50000 in
theorem gc_X11_fits : Cond.code yX11_fits cX11_fits 2 (some .int) ∈ GW := GW_in 956 rfl rfl
set_option maxRecDepth 50000 in
theorem gi_X11_fits : Cond.instanceMethod yX11_fits ∈ GW := GW_in 954 rfl rfl
set_option maxRecDepth 50000 in
theorem gs_X11_fits : Cond.selects RX11 yX11_fits yX11_fits ∈ GW := GW_in 955 rfl rfl
theorem mf_X11_fits : MF yX11_fits cX11_fits 2 (some .int) 1 := ⟨⟨by decide +kernel, by decide +kernel, by decide +kernel⟩, gc_X11_fits, gz_RX11, by decide⟩
set_option maxRecDepth 50000 in
theorem gc_X11_findFits : Cond.code yX11_findFits cX11_findFits 3 (some .int) ∈ GW := GW_in 960 rfl rfl
set_option maxRecDepth 50000 in
theorem gi_X11_findFits : Cond.instanceMethod yX11_findFits ∈ GW := GW_in 959 rfl rfl
theorem gs_X11_findFits : Cond.selects RX11 yX11_findFits yX11_findFits ∈ GW := GW_in 27 rfl rfl
theorem mf_X11_findFits : MF yX11_findFits cX11_findFits 3 (some .int) 2 := ⟨⟨by decide +kernel, by decide +kernel, by decide +kernel⟩, gc_X11_findFits, gz_RX11, by decide⟩
set_option maxRecDepth 50000 in
theorem gc_X0_aim : Cond.code yX0_aim cX0_aim 5 none ∈ GW := GW_in 964 rfl rfl
set_option maxRecDepth 50000 in
theorem gi_X0_aim : Cond.instanceMethod yX0_aim ∈ GW := GW_in 962 rfl rfl
set_option maxRecDepth 50000 in
theorem gs_X0_aim : Cond.selects RX0 yX0_aim yX0_aim ∈ GW := GW_in 963 rfl rfl
theorem mf_X0_aim : MF yX0_aim cX0_aim 5 none 1 := ⟨⟨by decide +kernel, by decide +kernel, by decide +kernel⟩, gc_X0_aim, gz_RX0, by decide⟩
set_option maxRecDepth 50000 in
theorem gc_X11_where : Cond.code yX11_where cX11_where 3 (some .int) ∈ GW := GW_in 970 rfl rfl
set_option maxRecDepth 50000 in
theorem gi_X11_where : Cond.instanceMethod yX11_where ∈ GW := GW_in 968 rfl rfl
set_option maxRecDepth 50000 in
theorem gs_X11_where : Cond.selects RX11 yX11_where yX11_where ∈ GW := GW_in 969 rfl rfl
theorem mf_X11_where : MF yX11_where cX11_where 3 (some .int) 2 := ⟨⟨by decide +kernel, by decide +kernel, by decide +kernel⟩, gc_X11_where, gz_RX11, by decide⟩
set_option maxRecDepth 50000 in
theorem gc_X11_tell : Cond.code yX11_tell cX11_tell 2 (some .int) ∈ GW := GW_in 974 rfl rfl
set_option maxRecDepth 50000 in
theorem gi_X11_tell : Cond.instanceMethod yX11_tell ∈ GW := GW_in 972 rfl rfl
set_option maxRecDepth 50000 in
theorem gs_X11_tell : Cond.selects RX11 yX11_tell yX11_tell ∈ GW := GW_in 973 rfl rfl
theorem mf_X11_tell : MF yX11_tell cX11_tell 2 (some .int) 1 := ⟨⟨by decide +kernel, by decide +kernel, by decide +kernel⟩, gc_X11_tell, gz_RX11, by decide⟩
set_option maxRecDepth 50000 in
theorem gc_X3_addTold : Cond.code yX3_addTold cX3_addTold 2 (some .boolean) ∈ GW := GW_in 978 rfl rfl
set_option maxRecDepth 50000 in
theorem gi_X3_addTold : Cond.instanceMethod yX3_addTold ∈ GW := GW_in 976 rfl rfl
set_option maxRecDepth 50000 in
theorem gs_X3_addTold : Cond.selects RX3 yX3_addTold yX3_addTold ∈ GW := GW_in 977 rfl rfl
theorem mf_X3_addTold : MF yX3_addTold cX3_addTold 2 (some .boolean) 1 := ⟨⟨by decide +kernel, by decide +kernel, by decide +kernel⟩, gc_X3_addTold, gz_RX3, by decide⟩
set_option maxRecDepth 50000 in
theorem gc_X11_drop : Cond.code yX11_drop cX11_drop 3 (some .int) ∈ GW := GW_in 982 rfl rfl
set_option maxRecDepth 50000 in
theorem gi_X11_drop : Cond.instanceMethod yX11_drop ∈ GW := GW_in 980 rfl rfl
set_option maxRecDepth 50000 in
theorem gs_X11_drop : Cond.selects RX11 yX11_drop yX11_drop ∈ GW := GW_in 981 rfl rfl
theorem mf_X11_drop : MF yX11_drop cX11_drop 3 (some .int) 1 := ⟨⟨by decide +kernel, by decide +kernel, by decide +kernel⟩, gc_X11_drop, gz_RX11, by decide⟩
set_option maxRecDepth 50000 in
theorem gc_X11_blow : Cond.code yX11_blow cX11_blow 3 (some .int) ∈ GW := GW_in 986 rfl rfl
set_option maxRecDepth 50000 in
theorem gi_X11_blow : Cond.instanceMethod yX11_blow ∈ GW := GW_in 984 rfl rfl
set_option maxRecDepth 50000 in
theorem gs_X11_blow : Cond.selects RX11 yX11_blow yX11_blow ∈ GW := GW_in 985 rfl rfl
theorem mf_X11_blow : MF yX11_blow cX11_blow 3 (some .int) 1 := ⟨⟨by decide +kernel, by decide +kernel, by decide +kernel⟩, gc_X11_blow, gz_RX11, by decide⟩
set_option maxRecDepth 50000 in
theorem gc_X1_find : Cond.code yX1_find cX1_find 7 none ∈ GW := GW_in 990 rfl rfl
set_option maxRecDepth 50000 in
theorem gi_X1_find : Cond.instanceMethod yX1_find ∈ GW := GW_in 988 rfl rfl
set_option maxRecDepth 50000 in
theorem gs_X1_find : Cond.selects RX1 yX1_find yX1_find ∈ GW := GW_in 989 rfl rfl
theorem mf_X1_find : MF yX1_find cX1_find 7 none 2 := ⟨⟨by decide +kernel, by decide +kernel, by decide +kernel⟩, gc_X1_find, gz_RX1, by decide⟩
set_option maxRecDepth 50000 in
theorem gc_X1_spell : Cond.code yX1_spell cX1_spell 6 (some .int) ∈ GW := GW_in 995 rfl rfl
set_option maxRecDepth 50000 in
theorem gi_X1_spell : Cond.instanceMethod yX1_spell ∈ GW := GW_in 994 rfl rfl
theorem gs_X1_spell : Cond.selects RX1 yX1_spell yX1_spell ∈ GW := GW_in 28 rfl rfl
theorem mf_X1_spell : MF yX1_spell cX1_spell 6 (some .int) 2 := ⟨⟨by decide +kernel, by decide +kernel, by decide +kernel⟩, gc_X1_spell, gz_RX1, by decide⟩
set_option maxRecDepth 50000 in
theorem gc_J9_min_7cf53 : Cond.code yJ9_min_7cf53 cJ9_min_7cf53 2 (some .int) ∈ GW := GW_in 998 rfl rfl
set_option maxRecDepth 50000 in
theorem gt_J9_min_7cf53 : Cond.static yJ9_min_7cf53 ∈ GW := GW_in 997 rfl rfl
theorem mf_J9_min_7cf53 : MF yJ9_min_7cf53 cJ9_min_7cf53 2 (some .int) 2 := ⟨⟨by decide +kernel, by decide +kernel, by decide +kernel⟩, gc_J9_min_7cf53, gz_RJ9, by decide⟩
set_option maxRecDepth 50000 in
theorem gc_X3_toldAt : Cond.code yX3_toldAt cX3_toldAt 2 (some .int) ∈ GW := GW_in 1002 rfl rfl
set_option maxRecDepth 50000 in
theorem gi_X3_toldAt : Cond.instanceMethod yX3_toldAt ∈ GW := GW_in 1000 rfl rfl
set_option maxRecDepth 50000 in
theorem gs_X3_toldAt : Cond.selects RX3 yX3_toldAt yX3_toldAt ∈ GW := GW_in 1001 rfl rfl
theorem mf_X3_toldAt : MF yX3_toldAt cX3_toldAt 2 (some .int) 1 := ⟨⟨by decide +kernel, by decide +kernel, by decide +kernel⟩, gc_X3_toldAt, gz_RX3, by decide⟩
set_option maxRecDepth 50000 in
theorem gc_X11_canTake : Cond.code yX11_canTake cX11_canTake 9 (some .boolean) ∈ GW := GW_in 1006 rfl rfl
set_option maxRecDepth 50000 in
theorem gt_X11_canTake : Cond.static yX11_canTake ∈ GW := GW_in 1005 rfl rfl
theorem mf_X11_canTake : MF yX11_canTake cX11_canTake 9 (some .boolean) 6 := ⟨⟨by decide +kernel, by decide +kernel, by decide +kernel⟩, gc_X11_canTake, gz_RX11, by decide⟩
set_option maxRecDepth 50000 in
theorem gc_X1_windAt : Cond.code yX1_windAt cX1_windAt 2 (some .int) ∈ GW := GW_in 1012 rfl rfl
set_option maxRecDepth 50000 in
theorem gi_X1_windAt : Cond.instanceMethod yX1_windAt ∈ GW := GW_in 1010 rfl rfl
set_option maxRecDepth 50000 in
theorem gs_X1_windAt : Cond.selects RX1 yX1_windAt yX1_windAt ∈ GW := GW_in 1011 rfl rfl
theorem mf_X1_windAt : MF yX1_windAt cX1_windAt 2 (some .int) 1 := ⟨⟨by decide +kernel, by decide +kernel, by decide +kernel⟩, gc_X1_windAt, gz_RX1, by decide⟩
set_option maxRecDepth 50000 in
theorem gc_X11_gale : Cond.code yX11_gale cX11_gale 9 (some .int) ∈ GW := GW_in 1016 rfl rfl
set_option maxRecDepth 50000 in
theorem gi_X11_gale : Cond.instanceMethod yX11_gale ∈ GW := GW_in 1014 rfl rfl
set_option maxRecDepth 50000 in
theorem gs_X11_gale : Cond.selects RX11 yX11_gale yX11_gale ∈ GW := GW_in 1015 rfl rfl
theorem mf_X11_gale : MF yX11_gale cX11_gale 9 (some .int) 3 := ⟨⟨by decide +kernel, by decide +kernel, by decide +kernel⟩, gc_X11_gale, gz_RX11, by decide⟩
set_option maxRecDepth 50000 in
theorem gc_X5_windBy : Cond.code yX5_windBy cX5_windBy 5 (some .int) ∈ GW := GW_in 1021 rfl rfl
set_option maxRecDepth 50000 in
theorem gi_X5_windBy : Cond.instanceMethod yX5_windBy ∈ GW := GW_in 1019 rfl rfl
set_option maxRecDepth 50000 in
theorem gs_X5_windBy : Cond.selects RX5 yX5_windBy yX5_windBy ∈ GW := GW_in 1020 rfl rfl
theorem mf_X5_windBy : MF yX5_windBy cX5_windBy 5 (some .int) 1 := ⟨⟨by decide +kernel, by decide +kernel, by decide +kernel⟩, gc_X5_windBy, gz_RX5, by decide⟩
set_option maxRecDepth 50000 in
theorem gc_X11_keep : Cond.code yX11_keep cX11_keep 4 (some .int) ∈ GW := GW_in 1026 rfl rfl
set_option maxRecDepth 50000 in
theorem gi_X11_keep : Cond.instanceMethod yX11_keep ∈ GW := GW_in 1024 rfl rfl
set_option maxRecDepth 50000 in
theorem gs_X11_keep : Cond.selects RX11 yX11_keep yX11_keep ∈ GW := GW_in 1025 rfl rfl
theorem mf_X11_keep : MF yX11_keep cX11_keep 4 (some .int) 1 := ⟨⟨by decide +kernel, by decide +kernel, by decide +kernel⟩, gc_X11_keep, gz_RX11, by decide⟩
set_option maxRecDepth 50000 in
theorem gc_X11_back : Cond.code yX11_back cX11_back 3 (some .int) ∈ GW := GW_in 1030 rfl rfl
set_option maxRecDepth 50000 in
theorem gi_X11_back : Cond.instanceMethod yX11_back ∈ GW := GW_in 1028 rfl rfl
set_option maxRecDepth 50000 in
theorem gs_X11_back : Cond.selects RX11 yX11_back yX11_back ∈ GW := GW_in 1029 rfl rfl
theorem mf_X11_back : MF yX11_back cX11_back 3 (some .int) 1 := ⟨⟨by decide +kernel, by decide +kernel, by decide +kernel⟩, gc_X11_back, gz_RX11, by decide⟩
set_option maxRecDepth 50000 in
theorem gc_X11_sheet : Cond.code yX11_sheet cX11_sheet 4 (some .int) ∈ GW := GW_in 1034 rfl rfl
set_option maxRecDepth 50000 in
theorem gi_X11_sheet : Cond.instanceMethod yX11_sheet ∈ GW := GW_in 1032 rfl rfl
set_option maxRecDepth 50000 in
theorem gs_X11_sheet : Cond.selects RX11 yX11_sheet yX11_sheet ∈ GW := GW_in 1033 rfl rfl
theorem mf_X11_sheet : MF yX11_sheet cX11_sheet 4 (some .int) 3 := ⟨⟨by decide +kernel, by decide +kernel, by decide +kernel⟩, gc_X11_sheet, gz_RX11, by decide⟩
set_option maxRecDepth 50000 in
theorem gc_X11_isSheet : Cond.code yX11_isSheet cX11_isSheet 1 (some .boolean) ∈ GW := GW_in 1037 rfl rfl
set_option maxRecDepth 50000 in
theorem gt_X11_isSheet : Cond.static yX11_isSheet ∈ GW := GW_in 1036 rfl rfl
theorem mf_X11_isSheet : MF yX11_isSheet cX11_isSheet 1 (some .boolean) 1 := ⟨⟨by decide +kernel, by decide +kernel, by decide +kernel⟩, gc_X11_isSheet, gz_RX11, by decide⟩
set_option maxRecDepth 50000 in
theorem gc_X11_isLane : Cond.code yX11_isLane cX11_isLane 1 (some .boolean) ∈ GW := GW_in 1040 rfl rfl
set_option maxRecDepth 50000 in
theorem gt_X11_isLane : Cond.static yX11_isLane ∈ GW := GW_in 1039 rfl rfl
theorem mf_X11_isLane : MF yX11_isLane cX11_isLane 1 (some .boolean) 1 := ⟨⟨by decide +kernel, by decide +kernel, by decide +kernel⟩, gc_X11_isLane, gz_RX11, by decide⟩
set_option maxRecDepth 50000 in
theorem gc_X7_renew : Cond.code yX7_renew cX7_renew 5 none ∈ GW := GW_in 1044 rfl rfl
set_option maxRecDepth 50000 in
theorem gi_X7_renew : Cond.instanceMethod yX7_renew ∈ GW := GW_in 1042 rfl rfl
set_option maxRecDepth 50000 in
theorem gs_X7_renew : Cond.selects RX7 yX7_renew yX7_renew ∈ GW := GW_in 1043 rfl rfl
theorem mf_X7_renew : MF yX7_renew cX7_renew 5 none 3 := ⟨⟨by decide +kernel, by decide +kernel, by decide +kernel⟩, gc_X7_renew, gz_RX7, by decide⟩
set_option maxRecDepth 50000 in
theorem gc_X11_lay : Cond.code yX11_lay cX11_lay 5 (some .int) ∈ GW := GW_in 1049 rfl rfl
set_option maxRecDepth 50000 in
theorem gi_X11_lay : Cond.instanceMethod yX11_lay ∈ GW := GW_in 1047 rfl rfl
set_option maxRecDepth 50000 in
theorem gs_X11_lay : Cond.selects RX11 yX11_lay yX11_lay ∈ GW := GW_in 1048 rfl rfl
theorem mf_X11_lay : MF yX11_lay cX11_lay 5 (some .int) 3 := ⟨⟨by decide +kernel, by decide +kernel, by decide +kernel⟩, gc_X11_lay, gz_RX11, by decide⟩
set_option maxRecDepth 50000 in
theorem gc_X7_faultAt : Cond.code yX7_faultAt cX7_faultAt 4 (some .int) ∈ GW := GW_in 1053 rfl rfl
set_option maxRecDepth 50000 in
theorem gi_X7_faultAt : Cond.instanceMethod yX7_faultAt ∈ GW := GW_in 1051 rfl rfl
set_option maxRecDepth 50000 in
theorem gs_X7_faultAt : Cond.selects RX7 yX7_faultAt yX7_faultAt ∈ GW := GW_in 1052 rfl rfl
theorem mf_X7_faultAt : MF yX7_faultAt cX7_faultAt 4 (some .int) 2 := ⟨⟨by decide +kernel, by decide +kernel, by decide +kernel⟩, gc_X7_faultAt, gz_RX7, by decide⟩
set_option maxRecDepth 50000 in
theorem gc_X7_sizeOf : Cond.code yX7_sizeOf cX7_sizeOf 2 (some .int) ∈ GW := GW_in 1057 rfl rfl
set_option maxRecDepth 50000 in
theorem gi_X7_sizeOf : Cond.instanceMethod yX7_sizeOf ∈ GW := GW_in 1055 rfl rfl
set_option maxRecDepth 50000 in
theorem gs_X7_sizeOf : Cond.selects RX7 yX7_sizeOf yX7_sizeOf ∈ GW := GW_in 1056 rfl rfl
theorem mf_X7_sizeOf : MF yX7_sizeOf cX7_sizeOf 2 (some .int) 1 := ⟨⟨by decide +kernel, by decide +kernel, by decide +kernel⟩, gc_X7_sizeOf, gz_RX7, by decide⟩
set_option maxRecDepth 50000 in
theorem gc_X7_set : Cond.code yX7_set cX7_set 4 none ∈ GW := GW_in 1061 rfl rfl
set_option maxRecDepth 50000 in
theorem gi_X7_set : Cond.instanceMethod yX7_set ∈ GW := GW_in 1059 rfl rfl
set_option maxRecDepth 50000 in
theorem gs_X7_set : Cond.selects RX7 yX7_set yX7_set ∈ GW := GW_in 1060 rfl rfl
theorem mf_X7_set : MF yX7_set cX7_set 4 none 3 := ⟨⟨by decide +kernel, by decide +kernel, by decide +kernel⟩, gc_X7_set, gz_RX7, by decide⟩
set_option maxRecDepth 50000 in
theorem gc_X11_read : Cond.code yX11_read cX11_read 8 (some .int) ∈ GW := GW_in 1066 rfl rfl
set_option maxRecDepth 50000 in
theorem gi_X11_read : Cond.instanceMethod yX11_read ∈ GW := GW_in 1064 rfl rfl
set_option maxRecDepth 50000 in
theorem gs_X11_read : Cond.selects RX11 yX11_read yX11_read ∈ GW := GW_in 1065 rfl rfl
theorem mf_X11_read : MF yX11_read cX11_read 8 (some .int) 4 := ⟨⟨by decide +kernel, by decide +kernel, by decide +kernel⟩, gc_X11_read, gz_RX11, by decide⟩
set_option maxRecDepth 50000 in
theorem gc_X7_faultAs : Cond.code yX7_faultAs cX7_faultAs 3 (some .int) ∈ GW := GW_in 1070 rfl rfl
set_option maxRecDepth 50000 in
theorem gi_X7_faultAs : Cond.instanceMethod yX7_faultAs ∈ GW := GW_in 1068 rfl rfl
set_option maxRecDepth 50000 in
theorem gs_X7_faultAs : Cond.selects RX7 yX7_faultAs yX7_faultAs ∈ GW := GW_in 1069 rfl rfl
theorem mf_X7_faultAs : MF yX7_faultAs cX7_faultAs 3 (some .int) 2 := ⟨⟨by decide +kernel, by decide +kernel, by decide +kernel⟩, gc_X7_faultAs, gz_RX7, by decide⟩
set_option maxRecDepth 50000 in
theorem gc_X7_wholeTurns : Cond.code yX7_wholeTurns cX7_wholeTurns 5 (some .int) ∈ GW := GW_in 1074 rfl rfl
set_option maxRecDepth 50000 in
theorem gi_X7_wholeTurns : Cond.instanceMethod yX7_wholeTurns ∈ GW := GW_in 1072 rfl rfl
set_option maxRecDepth 50000 in
theorem gs_X7_wholeTurns : Cond.selects RX7 yX7_wholeTurns yX7_wholeTurns ∈ GW := GW_in 1073 rfl rfl
theorem mf_X7_wholeTurns : MF yX7_wholeTurns cX7_wholeTurns 5 (some .int) 3 := ⟨⟨by decide +kernel, by decide +kernel, by decide +kernel⟩, gc_X7_wholeTurns, gz_RX7, by decide⟩
set_option maxRecDepth 50000 in
theorem gc_X11_playSheet : Cond.code yX11_playSheet cX11_playSheet 8 (some .int) ∈ GW := GW_in 1079 rfl rfl
set_option maxRecDepth 50000 in
theorem gi_X11_playSheet : Cond.instanceMethod yX11_playSheet ∈ GW := GW_in 1078 rfl rfl
theorem gs_X11_playSheet : Cond.selects RX11 yX11_playSheet yX11_playSheet ∈ GW := GW_in 29 rfl rfl
theorem mf_X11_playSheet : MF yX11_playSheet cX11_playSheet 8 (some .int) 3 := ⟨⟨by decide +kernel, by decide +kernel, by decide +kernel⟩, gc_X11_playSheet, gz_RX11, by decide⟩
set_option maxRecDepth 50000 in
theorem gc_X7_cellAt : Cond.code yX7_cellAt cX7_cellAt 3 (some .int) ∈ GW := GW_in 1083 rfl rfl
set_option maxRecDepth 50000 in
theorem gi_X7_cellAt : Cond.instanceMethod yX7_cellAt ∈ GW := GW_in 1081 rfl rfl
set_option maxRecDepth 50000 in
theorem gs_X7_cellAt : Cond.selects RX7 yX7_cellAt yX7_cellAt ∈ GW := GW_in 1082 rfl rfl
theorem mf_X7_cellAt : MF yX7_cellAt cX7_cellAt 3 (some .int) 2 := ⟨⟨by decide +kernel, by decide +kernel, by decide +kernel⟩, gc_X7_cellAt, gz_RX7, by decide⟩
set_option maxRecDepth 50000 in
theorem gc_X11_torn : Cond.code yX11_torn cX11_torn 1 (some .int) ∈ GW := GW_in 1087 rfl rfl
set_option maxRecDepth 50000 in
theorem gi_X11_torn : Cond.instanceMethod yX11_torn ∈ GW := GW_in 1085 rfl rfl
set_option maxRecDepth 50000 in
theorem gs_X11_torn : Cond.selects RX11 yX11_torn yX11_torn ∈ GW := GW_in 1086 rfl rfl
theorem mf_X11_torn : MF yX11_torn cX11_torn 1 (some .int) 0 := ⟨⟨by decide +kernel, by decide +kernel, by decide +kernel⟩, gc_X11_torn, gz_RX11, by decide⟩
set_option maxRecDepth 50000 in
theorem gc_X11_count : Cond.code yX11_count cX11_count 2 (some .int) ∈ GW := GW_in 1091 rfl rfl
set_option maxRecDepth 50000 in
theorem gi_X11_count : Cond.instanceMethod yX11_count ∈ GW := GW_in 1089 rfl rfl
set_option maxRecDepth 50000 in
theorem gs_X11_count : Cond.selects RX11 yX11_count yX11_count ∈ GW := GW_in 1090 rfl rfl
theorem mf_X11_count : MF yX11_count cX11_count 2 (some .int) 1 := ⟨⟨by decide +kernel, by decide +kernel, by decide +kernel⟩, gc_X11_count, gz_RX11, by decide⟩
set_option maxRecDepth 50000 in
theorem gc_X8_standing : Cond.code yX8_standing cX8_standing 4 (some .int) ∈ GW := GW_in 1095 rfl rfl
set_option maxRecDepth 50000 in
theorem gi_X8_standing : Cond.instanceMethod yX8_standing ∈ GW := GW_in 1093 rfl rfl
set_option maxRecDepth 50000 in
theorem gs_X8_standing : Cond.selects RX8 yX8_standing yX8_standing ∈ GW := GW_in 1094 rfl rfl
theorem mf_X8_standing : MF yX8_standing cX8_standing 4 (some .int) 1 := ⟨⟨by decide +kernel, by decide +kernel, by decide +kernel⟩, gc_X8_standing, gz_RX8, by decide⟩
set_option maxRecDepth 50000 in
theorem gc_X8_allOil : Cond.code yX8_allOil cX8_allOil 4 (some .int) ∈ GW := GW_in 1100 rfl rfl
set_option maxRecDepth 50000 in
theorem gi_X8_allOil : Cond.instanceMethod yX8_allOil ∈ GW := GW_in 1098 rfl rfl
set_option maxRecDepth 50000 in
theorem gs_X8_allOil : Cond.selects RX8 yX8_allOil yX8_allOil ∈ GW := GW_in 1099 rfl rfl
theorem mf_X8_allOil : MF yX8_allOil cX8_allOil 4 (some .int) 1 := ⟨⟨by decide +kernel, by decide +kernel, by decide +kernel⟩, gc_X8_allOil, gz_RX8, by decide⟩
set_option maxRecDepth 50000 in
theorem gc_X12_init : Cond.code yX12_init cX12_init 2 none ∈ GW := GW_in 1105 rfl rfl
set_option maxRecDepth 50000 in
theorem gi_X12_init : Cond.instanceMethod yX12_init ∈ GW := GW_in 1104 rfl rfl
theorem mf_X12_init : MF yX12_init cX12_init 2 none 0 := ⟨⟨by decide +kernel, by decide +kernel, by decide +kernel⟩, gc_X12_init, gz_RX12, by decide⟩
set_option maxRecDepth 50000 in
theorem gc_X12_firstDraft : Cond.code yX12_firstDraft cX12_firstDraft 2 none ∈ GW := GW_in 1110 rfl rfl
set_option maxRecDepth 50000 in
theorem gi_X12_firstDraft : Cond.instanceMethod yX12_firstDraft ∈ GW := GW_in 1109 rfl rfl
theorem gs_X12_firstDraft : Cond.selects RX12 yX12_firstDraft yX12_firstDraft ∈ GW := GW_in 30 rfl rfl
theorem mf_X12_firstDraft : MF yX12_firstDraft cX12_firstDraft 2 none 0 := ⟨⟨by decide +kernel, by decide +kernel, by decide +kernel⟩, gc_X12_firstDraft, gz_RX12, by decide⟩
set_option maxRecDepth 50000 in
theorem gc_X12_twoKings : Cond.code yX12_twoKings cX12_twoKings 2 none ∈ GW := GW_in 1114 rfl rfl
set_option maxRecDepth 50000 in
theorem gi_X12_twoKings : Cond.instanceMethod yX12_twoKings ∈ GW := GW_in 1113 rfl rfl
theorem gs_X12_twoKings : Cond.selects RX12 yX12_twoKings yX12_twoKings ∈ GW := GW_in 31 rfl rfl
theorem mf_X12_twoKings : MF yX12_twoKings cX12_twoKings 2 none 0 := ⟨⟨by decide +kernel, by decide +kernel, by decide +kernel⟩, gc_X12_twoKings, gz_RX12, by decide⟩
set_option maxRecDepth 50000 in
theorem gc_X12_keepDraft : Cond.code yX12_keepDraft cX12_keepDraft 2 none ∈ GW := GW_in 1118 rfl rfl
set_option maxRecDepth 50000 in
theorem gi_X12_keepDraft : Cond.instanceMethod yX12_keepDraft ∈ GW := GW_in 1117 rfl rfl
theorem gs_X12_keepDraft : Cond.selects RX12 yX12_keepDraft yX12_keepDraft ∈ GW := GW_in 32 rfl rfl
theorem mf_X12_keepDraft : MF yX12_keepDraft cX12_keepDraft 2 none 0 := ⟨⟨by decide +kernel, by decide +kernel, by decide +kernel⟩, gc_X12_keepDraft, gz_RX12, by decide⟩
set_option maxRecDepth 50000 in
theorem gc_X12_feed : Cond.code yX12_feed cX12_feed 4 (some .int) ∈ GW := GW_in 1252 rfl rfl
set_option maxRecDepth 50000 in
theorem gi_X12_feed : Cond.instanceMethod yX12_feed ∈ GW := GW_in 1250 rfl rfl
set_option maxRecDepth 50000 in
theorem gs_X12_feed : Cond.selects RX12 yX12_feed yX12_feed ∈ GW := GW_in 1251 rfl rfl
theorem mf_X12_feed : MF yX12_feed cX12_feed 4 (some .int) 1 := ⟨⟨by decide +kernel, by decide +kernel, by decide +kernel⟩, gc_X12_feed, gz_RX12, by decide⟩
set_option maxRecDepth 50000 in
theorem gc_X12_end : Cond.code yX12_end cX12_end 3 (some .int) ∈ GW := GW_in 1257 rfl rfl
set_option maxRecDepth 50000 in
theorem gi_X12_end : Cond.instanceMethod yX12_end ∈ GW := GW_in 1255 rfl rfl
set_option maxRecDepth 50000 in
theorem gs_X12_end : Cond.selects RX12 yX12_end yX12_end ∈ GW := GW_in 1256 rfl rfl
theorem mf_X12_end : MF yX12_end cX12_end 3 (some .int) 1 := ⟨⟨by decide +kernel, by decide +kernel, by decide +kernel⟩, gc_X12_end, gz_RX12, by decide⟩
set_option maxRecDepth 50000 in
theorem gc_X12_in : Cond.code yX12_in cX12_in 6 (some .boolean) ∈ GW := GW_in 1260 rfl rfl
set_option maxRecDepth 50000 in
theorem gt_X12_in : Cond.static yX12_in ∈ GW := GW_in 1259 rfl rfl
theorem mf_X12_in : MF yX12_in cX12_in 6 (some .boolean) 3 := ⟨⟨by decide +kernel, by decide +kernel, by decide +kernel⟩, gc_X12_in, gz_RX12, by decide⟩
set_option maxRecDepth 50000 in
theorem gc_X12_text : Cond.code yX12_text cX12_text 2 (some .int) ∈ GW := GW_in 1264 rfl rfl
set_option maxRecDepth 50000 in
theorem gi_X12_text : Cond.instanceMethod yX12_text ∈ GW := GW_in 1262 rfl rfl
set_option maxRecDepth 50000 in
theorem gs_X12_text : Cond.selects RX12 yX12_text yX12_text ∈ GW := GW_in 1263 rfl rfl
theorem mf_X12_text : MF yX12_text cX12_text 2 (some .int) 0 := ⟨⟨by decide +kernel, by decide +kernel, by decide +kernel⟩, gc_X12_text, gz_RX12, by decide⟩
set_option maxRecDepth 50000 in
theorem gc_X12_next : Cond.code yX12_next cX12_next 2 none ∈ GW := GW_in 1268 rfl rfl
set_option maxRecDepth 50000 in
theorem gi_X12_next : Cond.instanceMethod yX12_next ∈ GW := GW_in 1267 rfl rfl
theorem gs_X12_next : Cond.selects RX12 yX12_next yX12_next ∈ GW := GW_in 33 rfl rfl
theorem mf_X12_next : MF yX12_next cX12_next 2 none 0 := ⟨⟨by decide +kernel, by decide +kernel, by decide +kernel⟩, gc_X12_next, gz_RX12, by decide⟩
set_option maxRecDepth 50000 in
theorem gc_X12_look : Cond.code yX12_look cX12_look 2 (some .int) ∈ GW := GW_in 1272 rfl rfl
set_option maxRecDepth 50000 in
theorem gi_X12_look : Cond.instanceMethod yX12_look ∈ GW := GW_in 1271 rfl rfl
theorem gs_X12_look : Cond.selects RX12 yX12_look yX12_look ∈ GW := GW_in 34 rfl rfl
theorem mf_X12_look : MF yX12_look cX12_look 2 (some .int) 1 := ⟨⟨by decide +kernel, by decide +kernel, by decide +kernel⟩, gc_X12_look, gz_RX12, by decide⟩
set_option maxRecDepth 50000 in
theorem gc_X12_needs : Cond.code yX12_needs cX12_needs 3 none ∈ GW := GW_in 1280 rfl rfl
set_option maxRecDepth 50000 in
theorem gi_X12_needs : Cond.instanceMethod yX12_needs ∈ GW := GW_in 1279 rfl rfl
theorem gs_X12_needs : Cond.selects RX12 yX12_needs yX12_needs ∈ GW := GW_in 35 rfl rfl
theorem mf_X12_needs : MF yX12_needs cX12_needs 3 none 2 := ⟨⟨by decide +kernel, by decide +kernel, by decide +kernel⟩, gc_X12_needs, gz_RX12, by decide⟩
set_option maxRecDepth 50000 in
theorem gc_X12_readLine : Cond.code yX12_readLine cX12_readLine 2 none ∈ GW := GW_in 1284 rfl rfl
set_option maxRecDepth 50000 in
theorem gi_X12_readLine : Cond.instanceMethod yX12_readLine ∈ GW := GW_in 1283 rfl rfl
theorem gs_X12_readLine : Cond.selects RX12 yX12_readLine yX12_readLine ∈ GW := GW_in 36 rfl rfl
theorem mf_X12_readLine : MF yX12_readLine cX12_readLine 2 none 0 := ⟨⟨by decide +kernel, by decide +kernel, by decide +kernel⟩, gc_X12_readLine, gz_RX12, by decide⟩
set_option maxRecDepth 50000 in
theorem gc_X12_lineNow : Cond.code yX12_lineNow cX12_lineNow 1 (some .int) ∈ GW := GW_in 1288 rfl rfl
set_option maxRecDepth 50000 in
theorem gi_X12_lineNow : Cond.instanceMethod yX12_lineNow ∈ GW := GW_in 1287 rfl rfl
theorem gs_X12_lineNow : Cond.selects RX12 yX12_lineNow yX12_lineNow ∈ GW := GW_in 37 rfl rfl
theorem mf_X12_lineNow : MF yX12_lineNow cX12_lineNow 1 (some .int) 0 := ⟨⟨by decide +kernel, by decide +kernel, by decide +kernel⟩, gc_X12_lineNow, gz_RX12, by decide⟩
set_option maxRecDepth 50000 in
theorem gc_X12_is : Cond.code yX12_is cX12_is 5 (some .boolean) ∈ GW := GW_in 1292 rfl rfl
set_option maxRecDepth 50000 in
theorem gi_X12_is : Cond.instanceMethod yX12_is ∈ GW := GW_in 1291 rfl rfl
theorem gs_X12_is : Cond.selects RX12 yX12_is yX12_is ∈ GW := GW_in 38 rfl rfl
theorem mf_X12_is : MF yX12_is cX12_is 5 (some .boolean) 4 := ⟨⟨by decide +kernel, by decide +kernel, by decide +kernel⟩, gc_X12_is, gz_RX12, by decide⟩
set_option maxRecDepth 50000 in
theorem gc_X12_ends : Cond.code yX12_ends cX12_ends 4 (some .boolean) ∈ GW := GW_in 1296 rfl rfl
set_option maxRecDepth 50000 in
theorem gi_X12_ends : Cond.instanceMethod yX12_ends ∈ GW := GW_in 1295 rfl rfl
theorem gs_X12_ends : Cond.selects RX12 yX12_ends yX12_ends ∈ GW := GW_in 39 rfl rfl
theorem mf_X12_ends : MF yX12_ends cX12_ends 4 (some .boolean) 3 := ⟨⟨by decide +kernel, by decide +kernel, by decide +kernel⟩, gc_X12_ends, gz_RX12, by decide⟩
set_option maxRecDepth 50000 in
theorem gc_X12_readLineOf : Cond.code yX12_readLineOf cX12_readLineOf 3 none ∈ GW := GW_in 1300 rfl rfl
set_option maxRecDepth 50000 in
theorem gi_X12_readLineOf : Cond.instanceMethod yX12_readLineOf ∈ GW := GW_in 1299 rfl rfl
theorem gs_X12_readLineOf : Cond.selects RX12 yX12_readLineOf yX12_readLineOf ∈ GW := GW_in 40 rfl rfl
theorem mf_X12_readLineOf : MF yX12_readLineOf cX12_readLineOf 3 none 1 := ⟨⟨by decide +kernel, by decide +kernel, by decide +kernel⟩, gc_X12_readLineOf, gz_RX12, by decide⟩
set_option maxRecDepth 50000 in
theorem gc_X12_readNumber : Cond.code yX12_readNumber cX12_readNumber 4 (some .int) ∈ GW := GW_in 1304 rfl rfl
set_option maxRecDepth 50000 in
theorem gi_X12_readNumber : Cond.instanceMethod yX12_readNumber ∈ GW := GW_in 1303 rfl rfl
theorem gs_X12_readNumber : Cond.selects RX12 yX12_readNumber yX12_readNumber ∈ GW := GW_in 41 rfl rfl
theorem mf_X12_readNumber : MF yX12_readNumber cX12_readNumber 4 (some .int) 2 := ⟨⟨by decide +kernel, by decide +kernel, by decide +kernel⟩, gc_X12_readNumber, gz_RX12, by decide⟩
set_option maxRecDepth 50000 in
theorem gc_X12_looked : Cond.code yX12_looked cX12_looked 3 (some .int) ∈ GW := GW_in 1308 rfl rfl
set_option maxRecDepth 50000 in
theorem gi_X12_looked : Cond.instanceMethod yX12_looked ∈ GW := GW_in 1307 rfl rfl
theorem gs_X12_looked : Cond.selects RX12 yX12_looked yX12_looked ∈ GW := GW_in 42 rfl rfl
theorem mf_X12_looked : MF yX12_looked cX12_looked 3 (some .int) 2 := ⟨⟨by decide +kernel, by decide +kernel, by decide +kernel⟩, gc_X12_looked, gz_RX12, by decide⟩
set_option maxRecDepth 50000 in
theorem gc_X12_readOdds : Cond.code yX12_readOdds cX12_readOdds 4 none ∈ GW := GW_in 1312 rfl rfl
set_option maxRecDepth 50000 in
theorem gi_X12_readOdds : Cond.instanceMethod yX12_readOdds ∈ GW := GW_in 1311 rfl rfl
theorem gs_X12_readOdds : Cond.selects RX12 yX12_readOdds yX12_readOdds ∈ GW := GW_in 43 rfl rfl
theorem mf_X12_readOdds : MF yX12_readOdds cX12_readOdds 4 none 0 := ⟨⟨by decide +kernel, by decide +kernel, by decide +kernel⟩, gc_X12_readOdds, gz_RX12, by decide⟩
set_option maxRecDepth 50000 in
theorem gc_X12_readFree : Cond.code yX12_readFree cX12_readFree 4 (some .int) ∈ GW := GW_in 1316 rfl rfl
set_option maxRecDepth 50000 in
theorem gi_X12_readFree : Cond.instanceMethod yX12_readFree ∈ GW := GW_in 1315 rfl rfl
theorem gs_X12_readFree : Cond.selects RX12 yX12_readFree yX12_readFree ∈ GW := GW_in 44 rfl rfl
theorem mf_X12_readFree : MF yX12_readFree cX12_readFree 4 (some .int) 0 := ⟨⟨by decide +kernel, by decide +kernel, by decide +kernel⟩, gc_X12_readFree, gz_RX12, by decide⟩
set_option maxRecDepth 50000 in
theorem gc_X12_readPiece : Cond.code yX12_readPiece cX12_readPiece 5 none ∈ GW := GW_in 1320 rfl rfl
set_option maxRecDepth 50000 in
theorem gi_X12_readPiece : Cond.instanceMethod yX12_readPiece ∈ GW := GW_in 1319 rfl rfl
theorem gs_X12_readPiece : Cond.selects RX12 yX12_readPiece yX12_readPiece ∈ GW := GW_in 45 rfl rfl
theorem mf_X12_readPiece : MF yX12_readPiece cX12_readPiece 5 none 0 := ⟨⟨by decide +kernel, by decide +kernel, by decide +kernel⟩, gc_X12_readPiece, gz_RX12, by decide⟩
set_option maxRecDepth 50000 in
theorem gc_X12_kindNow : Cond.code yX12_kindNow cX12_kindNow 1 (some .int) ∈ GW := GW_in 1324 rfl rfl
set_option maxRecDepth 50000 in
theorem gi_X12_kindNow : Cond.instanceMethod yX12_kindNow ∈ GW := GW_in 1323 rfl rfl
theorem gs_X12_kindNow : Cond.selects RX12 yX12_kindNow yX12_kindNow ∈ GW := GW_in 46 rfl rfl
theorem mf_X12_kindNow : MF yX12_kindNow cX12_kindNow 1 (some .int) 0 := ⟨⟨by decide +kernel, by decide +kernel, by decide +kernel⟩, gc_X12_kindNow, gz_RX12, by decide⟩
set_option maxRecDepth 50000 in
theorem gc_X12_looksAtAll : Cond.code yX12_looksAtAll cX12_looksAtAll 1 none ∈ GW := GW_in 1328 rfl rfl
set_option maxRecDepth 50000 in
theorem gi_X12_looksAtAll : Cond.instanceMethod yX12_looksAtAll ∈ GW := GW_in 1327 rfl rfl
theorem gs_X12_looksAtAll : Cond.selects RX12 yX12_looksAtAll yX12_looksAtAll ∈ GW := GW_in 47 rfl rfl
theorem mf_X12_looksAtAll : MF yX12_looksAtAll cX12_looksAtAll 1 none 0 := ⟨⟨by decide +kernel, by decide +kernel, by decide +kernel⟩, gc_X12_looksAtAll, gz_RX12, by decide⟩
set_option maxRecDepth 50000 in
theorem gc_X12_kingsOf : Cond.code yX12_kingsOf cX12_kingsOf 4 (some .int) ∈ GW := GW_in 1332 rfl rfl
set_option maxRecDepth 50000 in
theorem gi_X12_kingsOf : Cond.instanceMethod yX12_kingsOf ∈ GW := GW_in 1331 rfl rfl
theorem gs_X12_kingsOf : Cond.selects RX12 yX12_kingsOf yX12_kingsOf ∈ GW := GW_in 48 rfl rfl
theorem mf_X12_kingsOf : MF yX12_kingsOf cX12_kingsOf 4 (some .int) 1 := ⟨⟨by decide +kernel, by decide +kernel, by decide +kernel⟩, gc_X12_kingsOf, gz_RX12, by decide⟩
set_option maxRecDepth 50000 in
theorem gc_X12_flag : Cond.code yX12_flag cX12_flag 1 (some .int) ∈ GW := GW_in 1335 rfl rfl
set_option maxRecDepth 50000 in
theorem gt_X12_flag : Cond.static yX12_flag ∈ GW := GW_in 1334 rfl rfl
theorem mf_X12_flag : MF yX12_flag cX12_flag 1 (some .int) 1 := ⟨⟨by decide +kernel, by decide +kernel, by decide +kernel⟩, gc_X12_flag, gz_RX12, by decide⟩
set_option maxRecDepth 50000 in
theorem gc_X12_fault : Cond.code yX12_fault cX12_fault 1 (some .int) ∈ GW := GW_in 1339 rfl rfl
set_option maxRecDepth 50000 in
theorem gi_X12_fault : Cond.instanceMethod yX12_fault ∈ GW := GW_in 1337 rfl rfl
set_option maxRecDepth 50000 in
theorem gs_X12_fault : Cond.selects RX12 yX12_fault yX12_fault ∈ GW := GW_in 1338 rfl rfl
theorem mf_X12_fault : MF yX12_fault cX12_fault 1 (some .int) 0 := ⟨⟨by decide +kernel, by decide +kernel, by decide +kernel⟩, gc_X12_fault, gz_RX12, by decide⟩
set_option maxRecDepth 50000 in
theorem gc_X12_rule : Cond.code yX12_rule cX12_rule 2 (some .int) ∈ GW := GW_in 1343 rfl rfl
set_option maxRecDepth 50000 in
theorem gi_X12_rule : Cond.instanceMethod yX12_rule ∈ GW := GW_in 1341 rfl rfl
set_option maxRecDepth 50000 in
theorem gs_X12_rule : Cond.selects RX12 yX12_rule yX12_rule ∈ GW := GW_in 1342 rfl rfl
theorem mf_X12_rule : MF yX12_rule cX12_rule 2 (some .int) 1 := ⟨⟨by decide +kernel, by decide +kernel, by decide +kernel⟩, gc_X12_rule, gz_RX12, by decide⟩
set_option maxRecDepth 50000 in
theorem gc_X12_starts : Cond.code yX12_starts cX12_starts 2 none ∈ GW := GW_in 1347 rfl rfl
set_option maxRecDepth 50000 in
theorem gi_X12_starts : Cond.instanceMethod yX12_starts ∈ GW := GW_in 1346 rfl rfl
theorem gs_X12_starts : Cond.selects RX12 yX12_starts yX12_starts ∈ GW := GW_in 49 rfl rfl
theorem mf_X12_starts : MF yX12_starts cX12_starts 2 none 0 := ⟨⟨by decide +kernel, by decide +kernel, by decide +kernel⟩, gc_X12_starts, gz_RX12, by decide⟩
set_option maxRecDepth 50000 in
theorem gc_X12_lost : Cond.code yX12_lost cX12_lost 3 (some .int) ∈ GW := GW_in 1351 rfl rfl
set_option maxRecDepth 50000 in
theorem gi_X12_lost : Cond.instanceMethod yX12_lost ∈ GW := GW_in 1350 rfl rfl
theorem gs_X12_lost : Cond.selects RX12 yX12_lost yX12_lost ∈ GW := GW_in 50 rfl rfl
theorem mf_X12_lost : MF yX12_lost cX12_lost 3 (some .int) 0 := ⟨⟨by decide +kernel, by decide +kernel, by decide +kernel⟩, gc_X12_lost, gz_RX12, by decide⟩
set_option maxRecDepth 50000 in
theorem gc_X12_square : Cond.code yX12_square cX12_square 2 (some .int) ∈ GW := GW_in 1355 rfl rfl
set_option maxRecDepth 50000 in
theorem gi_X12_square : Cond.instanceMethod yX12_square ∈ GW := GW_in 1353 rfl rfl
set_option maxRecDepth 50000 in
theorem gs_X12_square : Cond.selects RX12 yX12_square yX12_square ∈ GW := GW_in 1354 rfl rfl
theorem mf_X12_square : MF yX12_square cX12_square 2 (some .int) 1 := ⟨⟨by decide +kernel, by decide +kernel, by decide +kernel⟩, gc_X12_square, gz_RX12, by decide⟩
set_option maxRecDepth 50000 in
theorem gc_X12_isSquare : Cond.code yX12_isSquare cX12_isSquare 2 (some .boolean) ∈ GW := GW_in 1359 rfl rfl
set_option maxRecDepth 50000 in
theorem gi_X12_isSquare : Cond.instanceMethod yX12_isSquare ∈ GW := GW_in 1358 rfl rfl
theorem gs_X12_isSquare : Cond.selects RX12 yX12_isSquare yX12_isSquare ∈ GW := GW_in 51 rfl rfl
theorem mf_X12_isSquare : MF yX12_isSquare cX12_isSquare 2 (some .boolean) 1 := ⟨⟨by decide +kernel, by decide +kernel, by decide +kernel⟩, gc_X12_isSquare, gz_RX12, by decide⟩
set_option maxRecDepth 50000 in
theorem gc_X12_pieceAt : Cond.code yX12_pieceAt cX12_pieceAt 4 (some .int) ∈ GW := GW_in 1363 rfl rfl
set_option maxRecDepth 50000 in
theorem gi_X12_pieceAt : Cond.instanceMethod yX12_pieceAt ∈ GW := GW_in 1362 rfl rfl
theorem gs_X12_pieceAt : Cond.selects RX12 yX12_pieceAt yX12_pieceAt ∈ GW := GW_in 52 rfl rfl
theorem mf_X12_pieceAt : MF yX12_pieceAt cX12_pieceAt 4 (some .int) 1 := ⟨⟨by decide +kernel, by decide +kernel, by decide +kernel⟩, gc_X12_pieceAt, gz_RX12, by decide⟩
set_option maxRecDepth 50000 in
theorem gc_X12_piece : Cond.code yX12_piece cX12_piece 3 (some .int) ∈ GW := GW_in 1367 rfl rfl
set_option maxRecDepth 50000 in
theorem gi_X12_piece : Cond.instanceMethod yX12_piece ∈ GW := GW_in 1365 rfl rfl
set_option maxRecDepth 50000 in
theorem gs_X12_piece : Cond.selects RX12 yX12_piece yX12_piece ∈ GW := GW_in 1366 rfl rfl
theorem mf_X12_piece : MF yX12_piece cX12_piece 3 (some .int) 2 := ⟨⟨by decide +kernel, by decide +kernel, by decide +kernel⟩, gc_X12_piece, gz_RX12, by decide⟩
set_option maxRecDepth 50000 in
theorem gc_X12_isPiece : Cond.code yX12_isPiece cX12_isPiece 2 (some .boolean) ∈ GW := GW_in 1371 rfl rfl
set_option maxRecDepth 50000 in
theorem gi_X12_isPiece : Cond.instanceMethod yX12_isPiece ∈ GW := GW_in 1370 rfl rfl
theorem gs_X12_isPiece : Cond.selects RX12 yX12_isPiece yX12_isPiece ∈ GW := GW_in 53 rfl rfl
theorem mf_X12_isPiece : MF yX12_isPiece cX12_isPiece 2 (some .boolean) 1 := ⟨⟨by decide +kernel, by decide +kernel, by decide +kernel⟩, gc_X12_isPiece, gz_RX12, by decide⟩
set_option maxRecDepth 50000 in
theorem gc_X12_odd : Cond.code yX12_odd cX12_odd 2 (some .int) ∈ GW := GW_in 1375 rfl rfl
set_option maxRecDepth 50000 in
theorem gi_X12_odd : Cond.instanceMethod yX12_odd ∈ GW := GW_in 1373 rfl rfl
set_option maxRecDepth 50000 in
theorem gs_X12_odd : Cond.selects RX12 yX12_odd yX12_odd ∈ GW := GW_in 1374 rfl rfl
theorem mf_X12_odd : MF yX12_odd cX12_odd 2 (some .int) 1 := ⟨⟨by decide +kernel, by decide +kernel, by decide +kernel⟩, gc_X12_odd, gz_RX12, by decide⟩
set_option maxRecDepth 50000 in
theorem gc_X12_isWind : Cond.code yX12_isWind cX12_isWind 1 (some .boolean) ∈ GW := GW_in 1378 rfl rfl
set_option maxRecDepth 50000 in
theorem gt_X12_isWind : Cond.static yX12_isWind ∈ GW := GW_in 1377 rfl rfl
theorem mf_X12_isWind : MF yX12_isWind cX12_isWind 1 (some .boolean) 1 := ⟨⟨by decide +kernel, by decide +kernel, by decide +kernel⟩, gc_X12_isWind, gz_RX12, by decide⟩
set_option maxRecDepth 50000 in
theorem gc_X12_oil : Cond.code yX12_oil cX12_oil 3 (some .int) ∈ GW := GW_in 1383 rfl rfl
set_option maxRecDepth 50000 in
theorem gi_X12_oil : Cond.instanceMethod yX12_oil ∈ GW := GW_in 1381 rfl rfl
set_option maxRecDepth 50000 in
theorem gs_X12_oil : Cond.selects RX12 yX12_oil yX12_oil ∈ GW := GW_in 1382 rfl rfl
theorem mf_X12_oil : MF yX12_oil cX12_oil 3 (some .int) 2 := ⟨⟨by decide +kernel, by decide +kernel, by decide +kernel⟩, gc_X12_oil, gz_RX12, by decide⟩
set_option maxRecDepth 50000 in
theorem gc_X12_becomes : Cond.code yX12_becomes cX12_becomes 4 (some .int) ∈ GW := GW_in 1388 rfl rfl
set_option maxRecDepth 50000 in
theorem gi_X12_becomes : Cond.instanceMethod yX12_becomes ∈ GW := GW_in 1387 rfl rfl
theorem gs_X12_becomes : Cond.selects RX12 yX12_becomes yX12_becomes ∈ GW := GW_in 54 rfl rfl
theorem mf_X12_becomes : MF yX12_becomes cX12_becomes 4 (some .int) 2 := ⟨⟨by decide +kernel, by decide +kernel, by decide +kernel⟩, gc_X12_becomes, gz_RX12, by decide⟩
set_option maxRecDepth 50000 in
theorem gc_X12_put : Cond.code yX12_put cX12_put 4 (some .int) ∈ GW := GW_in 1392 rfl rfl
set_option maxRecDepth 50000 in
theorem gi_X12_put : Cond.instanceMethod yX12_put ∈ GW := GW_in 1390 rfl rfl
set_option maxRecDepth 50000 in
theorem gs_X12_put : Cond.selects RX12 yX12_put yX12_put ∈ GW := GW_in 1391 rfl rfl
theorem mf_X12_put : MF yX12_put cX12_put 4 (some .int) 2 := ⟨⟨by decide +kernel, by decide +kernel, by decide +kernel⟩, gc_X12_put, gz_RX12, by decide⟩
set_option maxRecDepth 50000 in
theorem gc_X12_isOpen : Cond.code yX12_isOpen cX12_isOpen 2 (some .boolean) ∈ GW := GW_in 1396 rfl rfl
set_option maxRecDepth 50000 in
theorem gi_X12_isOpen : Cond.instanceMethod yX12_isOpen ∈ GW := GW_in 1395 rfl rfl
theorem gs_X12_isOpen : Cond.selects RX12 yX12_isOpen yX12_isOpen ∈ GW := GW_in 55 rfl rfl
theorem mf_X12_isOpen : MF yX12_isOpen cX12_isOpen 2 (some .boolean) 1 := ⟨⟨by decide +kernel, by decide +kernel, by decide +kernel⟩, gc_X12_isOpen, gz_RX12, by decide⟩
set_option maxRecDepth 50000 in
theorem gc_X12_steeple : Cond.code yX12_steeple cX12_steeple 4 (some .int) ∈ GW := GW_in 1400 rfl rfl
set_option maxRecDepth 50000 in
theorem gi_X12_steeple : Cond.instanceMethod yX12_steeple ∈ GW := GW_in 1398 rfl rfl
set_option maxRecDepth 50000 in
theorem gs_X12_steeple : Cond.selects RX12 yX12_steeple yX12_steeple ∈ GW := GW_in 1399 rfl rfl
theorem mf_X12_steeple : MF yX12_steeple cX12_steeple 4 (some .int) 2 := ⟨⟨by decide +kernel, by decide +kernel, by decide +kernel⟩, gc_X12_steeple, gz_RX12, by decide⟩
set_option maxRecDepth 50000 in
theorem gc_X12_weigh : Cond.code yX12_weigh cX12_weigh 3 (some .int) ∈ GW := GW_in 1404 rfl rfl
set_option maxRecDepth 50000 in
theorem gi_X12_weigh : Cond.instanceMethod yX12_weigh ∈ GW := GW_in 1402 rfl rfl
set_option maxRecDepth 50000 in
theorem gs_X12_weigh : Cond.selects RX12 yX12_weigh yX12_weigh ∈ GW := GW_in 1403 rfl rfl
theorem mf_X12_weigh : MF yX12_weigh cX12_weigh 3 (some .int) 2 := ⟨⟨by decide +kernel, by decide +kernel, by decide +kernel⟩, gc_X12_weigh, gz_RX12, by decide⟩
set_option maxRecDepth 50000 in
theorem gc_X12_allOdds : Cond.code yX12_allOdds cX12_allOdds 3 (some .int) ∈ GW := GW_in 1408 rfl rfl
set_option maxRecDepth 50000 in
theorem gi_X12_allOdds : Cond.instanceMethod yX12_allOdds ∈ GW := GW_in 1407 rfl rfl
theorem gs_X12_allOdds : Cond.selects RX12 yX12_allOdds yX12_allOdds ∈ GW := GW_in 56 rfl rfl
theorem mf_X12_allOdds : MF yX12_allOdds cX12_allOdds 3 (some .int) 0 := ⟨⟨by decide +kernel, by decide +kernel, by decide +kernel⟩, gc_X12_allOdds, gz_RX12, by decide⟩
set_option maxRecDepth 50000 in
theorem gc_X12_turn : Cond.code yX12_turn cX12_turn 2 (some .int) ∈ GW := GW_in 1412 rfl rfl
set_option maxRecDepth 50000 in
theorem gi_X12_turn : Cond.instanceMethod yX12_turn ∈ GW := GW_in 1410 rfl rfl
set_option maxRecDepth 50000 in
theorem gs_X12_turn : Cond.selects RX12 yX12_turn yX12_turn ∈ GW := GW_in 1411 rfl rfl
theorem mf_X12_turn : MF yX12_turn cX12_turn 2 (some .int) 1 := ⟨⟨by decide +kernel, by decide +kernel, by decide +kernel⟩, gc_X12_turn, gz_RX12, by decide⟩
set_option maxRecDepth 50000 in
theorem gc_X12_moves : Cond.code yX12_moves cX12_moves 2 (some .int) ∈ GW := GW_in 1416 rfl rfl
set_option maxRecDepth 50000 in
theorem gi_X12_moves : Cond.instanceMethod yX12_moves ∈ GW := GW_in 1414 rfl rfl
set_option maxRecDepth 50000 in
theorem gs_X12_moves : Cond.selects RX12 yX12_moves yX12_moves ∈ GW := GW_in 1415 rfl rfl
theorem mf_X12_moves : MF yX12_moves cX12_moves 2 (some .int) 1 := ⟨⟨by decide +kernel, by decide +kernel, by decide +kernel⟩, gc_X12_moves, gz_RX12, by decide⟩
set_option maxRecDepth 50000 in
theorem gc_X12_findMoves : Cond.code yX12_findMoves cX12_findMoves 9 none ∈ GW := GW_in 1420 rfl rfl
set_option maxRecDepth 50000 in
theorem gi_X12_findMoves : Cond.instanceMethod yX12_findMoves ∈ GW := GW_in 1419 rfl rfl
theorem gs_X12_findMoves : Cond.selects RX12 yX12_findMoves yX12_findMoves ∈ GW := GW_in 57 rfl rfl
theorem mf_X12_findMoves : MF yX12_findMoves cX12_findMoves 9 none 2 := ⟨⟨by decide +kernel, by decide +kernel, by decide +kernel⟩, gc_X12_findMoves, gz_RX12, by decide⟩
set_option maxRecDepth 50000 in
theorem gc_X12_targets : Cond.code yX12_targets cX12_targets 8 (some .int) ∈ GW := GW_in 1424 rfl rfl
set_option maxRecDepth 50000 in
theorem gi_X12_targets : Cond.instanceMethod yX12_targets ∈ GW := GW_in 1423 rfl rfl
theorem gs_X12_targets : Cond.selects RX12 yX12_targets yX12_targets ∈ GW := GW_in 58 rfl rfl
theorem mf_X12_targets : MF yX12_targets cX12_targets 8 (some .int) 2 := ⟨⟨by decide +kernel, by decide +kernel, by decide +kernel⟩, gc_X12_targets, gz_RX12, by decide⟩
set_option maxRecDepth 50000 in
theorem gc_X12_onTo : Cond.code yX12_onTo cX12_onTo 8 (some .int) ∈ GW := GW_in 1428 rfl rfl
set_option maxRecDepth 50000 in
theorem gi_X12_onTo : Cond.instanceMethod yX12_onTo ∈ GW := GW_in 1427 rfl rfl
theorem gs_X12_onTo : Cond.selects RX12 yX12_onTo yX12_onTo ∈ GW := GW_in 59 rfl rfl
theorem mf_X12_onTo : MF yX12_onTo cX12_onTo 8 (some .int) 4 := ⟨⟨by decide +kernel, by decide +kernel, by decide +kernel⟩, gc_X12_onTo, gz_RX12, by decide⟩
set_option maxRecDepth 50000 in
theorem gc_X12_ownGone : Cond.code yX12_ownGone cX12_ownGone 4 (some .int) ∈ GW := GW_in 1432 rfl rfl
set_option maxRecDepth 50000 in
theorem gi_X12_ownGone : Cond.instanceMethod yX12_ownGone ∈ GW := GW_in 1431 rfl rfl
theorem gs_X12_ownGone : Cond.selects RX12 yX12_ownGone yX12_ownGone ∈ GW := GW_in 60 rfl rfl
theorem mf_X12_ownGone : MF yX12_ownGone cX12_ownGone 4 (some .int) 1 := ⟨⟨by decide +kernel, by decide +kernel, by decide +kernel⟩, gc_X12_ownGone, gz_RX12, by decide⟩
set_option maxRecDepth 50000 in
theorem gc_X12_move : Cond.code yX12_move cX12_move 3 (some .int) ∈ GW := GW_in 1436 rfl rfl
set_option maxRecDepth 50000 in
theorem gi_X12_move : Cond.instanceMethod yX12_move ∈ GW := GW_in 1434 rfl rfl
set_option maxRecDepth 50000 in
theorem gs_X12_move : Cond.selects RX12 yX12_move yX12_move ∈ GW := GW_in 1435 rfl rfl
theorem mf_X12_move : MF yX12_move cX12_move 3 (some .int) 2 := ⟨⟨by decide +kernel, by decide +kernel, by decide +kernel⟩, gc_X12_move, gz_RX12, by decide⟩
set_option maxRecDepth 50000 in
theorem gc_X12_go : Cond.code yX12_go cX12_go 5 (some .int) ∈ GW := GW_in 1440 rfl rfl
set_option maxRecDepth 50000 in
theorem gi_X12_go : Cond.instanceMethod yX12_go ∈ GW := GW_in 1438 rfl rfl
set_option maxRecDepth 50000 in
theorem gs_X12_go : Cond.selects RX12 yX12_go yX12_go ∈ GW := GW_in 1439 rfl rfl
theorem mf_X12_go : MF yX12_go cX12_go 5 (some .int) 2 := ⟨⟨by decide +kernel, by decide +kernel, by decide +kernel⟩, gc_X12_go, gz_RX12, by decide⟩
set_option maxRecDepth 50000 in
theorem gc_X12_goes : Cond.code yX12_goes cX12_goes 7 (some .int) ∈ GW := GW_in 1444 rfl rfl
set_option maxRecDepth 50000 in
theorem gi_X12_goes : Cond.instanceMethod yX12_goes ∈ GW := GW_in 1443 rfl rfl
theorem gs_X12_goes : Cond.selects RX12 yX12_goes yX12_goes ∈ GW := GW_in 61 rfl rfl
theorem mf_X12_goes : MF yX12_goes cX12_goes 7 (some .int) 2 := ⟨⟨by decide +kernel, by decide +kernel, by decide +kernel⟩, gc_X12_goes, gz_RX12, by decide⟩
set_option maxRecDepth 50000 in
theorem gc_X12_chance : Cond.code yX12_chance cX12_chance 4 (some .long) ∈ GW := GW_in 1448 rfl rfl
set_option maxRecDepth 50000 in
theorem gi_X12_chance : Cond.instanceMethod yX12_chance ∈ GW := GW_in 1446 rfl rfl
set_option maxRecDepth 50000 in
theorem gs_X12_chance : Cond.selects RX12 yX12_chance yX12_chance ∈ GW := GW_in 1447 rfl rfl
theorem mf_X12_chance : MF yX12_chance cX12_chance 4 (some .long) 3 := ⟨⟨by decide +kernel, by decide +kernel, by decide +kernel⟩, gc_X12_chance, gz_RX12, by decide⟩
set_option maxRecDepth 50000 in
theorem gc_X12_valueOf : Cond.code yX12_valueOf cX12_valueOf 8 (some .long) ∈ GW := GW_in 1454 rfl rfl
set_option maxRecDepth 50000 in
theorem gi_X12_valueOf : Cond.instanceMethod yX12_valueOf ∈ GW := GW_in 1453 rfl rfl
theorem gs_X12_valueOf : Cond.selects RX12 yX12_valueOf yX12_valueOf ∈ GW := GW_in 62 rfl rfl
theorem mf_X12_valueOf : MF yX12_valueOf cX12_valueOf 8 (some .long) 2 := ⟨⟨by decide +kernel, by decide +kernel, by decide +kernel⟩, gc_X12_valueOf, gz_RX12, by decide⟩
set_option maxRecDepth 50000 in
theorem gc_X12_wonNow : Cond.code yX12_wonNow cX12_wonNow 2 (some .long) ∈ GW := GW_in 1458 rfl rfl
set_option maxRecDepth 50000 in
theorem gi_X12_wonNow : Cond.instanceMethod yX12_wonNow ∈ GW := GW_in 1457 rfl rfl
theorem gs_X12_wonNow : Cond.selects RX12 yX12_wonNow yX12_wonNow ∈ GW := GW_in 63 rfl rfl
theorem mf_X12_wonNow : MF yX12_wonNow cX12_wonNow 2 (some .long) 1 := ⟨⟨by decide +kernel, by decide +kernel, by decide +kernel⟩, gc_X12_wonNow, gz_RX12, by decide⟩
set_option maxRecDepth 50000 in
theorem gc_X12_one : Cond.code yX12_one cX12_one 7 (some .long) ∈ GW := GW_in 1462 rfl rfl
set_option maxRecDepth 50000 in
theorem gi_X12_one : Cond.instanceMethod yX12_one ∈ GW := GW_in 1461 rfl rfl
theorem gs_X12_one : Cond.selects RX12 yX12_one yX12_one ∈ GW := GW_in 64 rfl rfl
theorem mf_X12_one : MF yX12_one cX12_one 7 (some .long) 1 := ⟨⟨by decide +kernel, by decide +kernel, by decide +kernel⟩, gc_X12_one, gz_RX12, by decide⟩
set_option maxRecDepth 50000 in
theorem gc_X12_windOfOne : Cond.code yX12_windOfOne cX12_windOfOne 12 (some .long) ∈ GW := GW_in 1466 rfl rfl
set_option maxRecDepth 50000 in
theorem gi_X12_windOfOne : Cond.instanceMethod yX12_windOfOne ∈ GW := GW_in 1465 rfl rfl
theorem gs_X12_windOfOne : Cond.selects RX12 yX12_windOfOne yX12_windOfOne ∈ GW := GW_in 65 rfl rfl
theorem mf_X12_windOfOne : MF yX12_windOfOne cX12_windOfOne 12 (some .long) 2 := ⟨⟨by decide +kernel, by decide +kernel, by decide +kernel⟩, gc_X12_windOfOne, gz_RX12, by decide⟩
set_option maxRecDepth 50000 in
theorem gc_X12_saves : Cond.code yX12_saves cX12_saves 3 none ∈ GW := GW_in 1470 rfl rfl
set_option maxRecDepth 50000 in
theorem gi_X12_saves : Cond.instanceMethod yX12_saves ∈ GW := GW_in 1469 rfl rfl
theorem gs_X12_saves : Cond.selects RX12 yX12_saves yX12_saves ∈ GW := GW_in 66 rfl rfl
theorem mf_X12_saves : MF yX12_saves cX12_saves 3 none 1 := ⟨⟨by decide +kernel, by decide +kernel, by decide +kernel⟩, gc_X12_saves, gz_RX12, by decide⟩
set_option maxRecDepth 50000 in
theorem gc_X12_returns : Cond.code yX12_returns cX12_returns 3 none ∈ GW := GW_in 1474 rfl rfl
set_option maxRecDepth 50000 in
theorem gi_X12_returns : Cond.instanceMethod yX12_returns ∈ GW := GW_in 1473 rfl rfl
theorem gs_X12_returns : Cond.selects RX12 yX12_returns yX12_returns ∈ GW := GW_in 67 rfl rfl
theorem mf_X12_returns : MF yX12_returns cX12_returns 3 none 1 := ⟨⟨by decide +kernel, by decide +kernel, by decide +kernel⟩, gc_X12_returns, gz_RX12, by decide⟩
set_option maxRecDepth 50000 in
theorem gc_X12_isBetter : Cond.code yX12_isBetter cX12_isBetter 6 (some .boolean) ∈ GW := GW_in 1477 rfl rfl
set_option maxRecDepth 50000 in
theorem gt_X12_isBetter : Cond.static yX12_isBetter ∈ GW := GW_in 1476 rfl rfl
theorem mf_X12_isBetter : MF yX12_isBetter cX12_isBetter 6 (some .boolean) 4 := ⟨⟨by decide +kernel, by decide +kernel, by decide +kernel⟩, gc_X12_isBetter, gz_RX12, by decide⟩
set_option maxRecDepth 50000 in
theorem gc_X12_two : Cond.code yX12_two cX12_two 7 (some .long) ∈ GW := GW_in 1481 rfl rfl
set_option maxRecDepth 50000 in
theorem gi_X12_two : Cond.instanceMethod yX12_two ∈ GW := GW_in 1480 rfl rfl
theorem gs_X12_two : Cond.selects RX12 yX12_two yX12_two ∈ GW := GW_in 68 rfl rfl
theorem mf_X12_two : MF yX12_two cX12_two 7 (some .long) 1 := ⟨⟨by decide +kernel, by decide +kernel, by decide +kernel⟩, gc_X12_two, gz_RX12, by decide⟩
set_option maxRecDepth 50000 in
theorem gc_X12_windOfTwo : Cond.code yX12_windOfTwo cX12_windOfTwo 12 (some .long) ∈ GW := GW_in 1485 rfl rfl
set_option maxRecDepth 50000 in
theorem gi_X12_windOfTwo : Cond.instanceMethod yX12_windOfTwo ∈ GW := GW_in 1484 rfl rfl
theorem gs_X12_windOfTwo : Cond.selects RX12 yX12_windOfTwo yX12_windOfTwo ∈ GW := GW_in 69 rfl rfl
theorem mf_X12_windOfTwo : MF yX12_windOfTwo cX12_windOfTwo 12 (some .long) 2 := ⟨⟨by decide +kernel, by decide +kernel, by decide +kernel⟩, gc_X12_windOfTwo, gz_RX12, by decide⟩
set_option maxRecDepth 50000 in
theorem gc_X12_windOfThree : Cond.code yX12_windOfThree cX12_windOfThree 12 (some .long) ∈ GW := GW_in 1489 rfl rfl
set_option maxRecDepth 50000 in
theorem gi_X12_windOfThree : Cond.instanceMethod yX12_windOfThree ∈ GW := GW_in 1488 rfl rfl
theorem gs_X12_windOfThree : Cond.selects RX12 yX12_windOfThree yX12_windOfThree ∈ GW := GW_in 70 rfl rfl
theorem mf_X12_windOfThree : MF yX12_windOfThree cX12_windOfThree 12 (some .long) 2 := ⟨⟨by decide +kernel, by decide +kernel, by decide +kernel⟩, gc_X12_windOfThree, gz_RX12, by decide⟩
set_option maxRecDepth 50000 in
theorem gc_X12_told : Cond.code yX12_told cX12_told 9 (some .long) ∈ GW := GW_in 1493 rfl rfl
set_option maxRecDepth 50000 in
theorem gi_X12_told : Cond.instanceMethod yX12_told ∈ GW := GW_in 1492 rfl rfl
theorem gs_X12_told : Cond.selects RX12 yX12_told yX12_told ∈ GW := GW_in 71 rfl rfl
theorem mf_X12_told : MF yX12_told cX12_told 9 (some .long) 3 := ⟨⟨by decide +kernel, by decide +kernel, by decide +kernel⟩, gc_X12_told, gz_RX12, by decide⟩
set_option maxRecDepth 50000 in
theorem gc_X12_common : Cond.code yX12_common cX12_common 10 (some .long) ∈ GW := GW_in 1496 rfl rfl
set_option maxRecDepth 50000 in
theorem gt_X12_common : Cond.static yX12_common ∈ GW := GW_in 1495 rfl rfl
theorem mf_X12_common : MF yX12_common cX12_common 10 (some .long) 2 := ⟨⟨by decide +kernel, by decide +kernel, by decide +kernel⟩, gc_X12_common, gz_RX12, by decide⟩
set_option maxRecDepth 50000 in
theorem gc_X12_byWind : Cond.code yX12_byWind cX12_byWind 4 (some .long) ∈ GW := GW_in 1500 rfl rfl
set_option maxRecDepth 50000 in
theorem gi_X12_byWind : Cond.instanceMethod yX12_byWind ∈ GW := GW_in 1498 rfl rfl
set_option maxRecDepth 50000 in
theorem gs_X12_byWind : Cond.selects RX12 yX12_byWind yX12_byWind ∈ GW := GW_in 1499 rfl rfl
theorem mf_X12_byWind : MF yX12_byWind cX12_byWind 4 (some .long) 3 := ⟨⟨by decide +kernel, by decide +kernel, by decide +kernel⟩, gc_X12_byWind, gz_RX12, by decide⟩
set_option maxRecDepth 50000 in
theorem gc_X12_windOf : Cond.code yX12_windOf cX12_windOf 4 (some .long) ∈ GW := GW_in 1505 rfl rfl
set_option maxRecDepth 50000 in
theorem gi_X12_windOf : Cond.instanceMethod yX12_windOf ∈ GW := GW_in 1504 rfl rfl
theorem gs_X12_windOf : Cond.selects RX12 yX12_windOf yX12_windOf ∈ GW := GW_in 72 rfl rfl
theorem mf_X12_windOf : MF yX12_windOf cX12_windOf 4 (some .long) 3 := ⟨⟨by decide +kernel, by decide +kernel, by decide +kernel⟩, gc_X12_windOf, gz_RX12, by decide⟩
set_option maxRecDepth 50000 in
theorem gc_X12_best : Cond.code yX12_best cX12_best 3 (some .int) ∈ GW := GW_in 1509 rfl rfl
set_option maxRecDepth 50000 in
theorem gi_X12_best : Cond.instanceMethod yX12_best ∈ GW := GW_in 1507 rfl rfl
set_option maxRecDepth 50000 in
theorem gs_X12_best : Cond.selects RX12 yX12_best yX12_best ∈ GW := GW_in 1508 rfl rfl
theorem mf_X12_best : MF yX12_best cX12_best 3 (some .int) 2 := ⟨⟨by decide +kernel, by decide +kernel, by decide +kernel⟩, gc_X12_best, gz_RX12, by decide⟩
set_option maxRecDepth 50000 in
theorem gc_X12_hope : Cond.code yX12_hope cX12_hope 8 (some .int) ∈ GW := GW_in 1513 rfl rfl
set_option maxRecDepth 50000 in
theorem gi_X12_hope : Cond.instanceMethod yX12_hope ∈ GW := GW_in 1511 rfl rfl
set_option maxRecDepth 50000 in
theorem gs_X12_hope : Cond.selects RX12 yX12_hope yX12_hope ∈ GW := GW_in 1512 rfl rfl
theorem mf_X12_hope : MF yX12_hope cX12_hope 8 (some .int) 1 := ⟨⟨by decide +kernel, by decide +kernel, by decide +kernel⟩, gc_X12_hope, gz_RX12, by decide⟩
set_option maxRecDepth 50000 in
theorem gc_X12_since : Cond.code yX12_since cX12_since 6 (some .int) ∈ GW := GW_in 1517 rfl rfl
set_option maxRecDepth 50000 in
theorem gi_X12_since : Cond.instanceMethod yX12_since ∈ GW := GW_in 1515 rfl rfl
set_option maxRecDepth 50000 in
theorem gs_X12_since : Cond.selects RX12 yX12_since yX12_since ∈ GW := GW_in 1516 rfl rfl
theorem mf_X12_since : MF yX12_since cX12_since 6 (some .int) 3 := ⟨⟨by decide +kernel, by decide +kernel, by decide +kernel⟩, gc_X12_since, gz_RX12, by decide⟩
set_option maxRecDepth 50000 in
theorem gc_X12_findRows : Cond.code yX12_findRows cX12_findRows 5 none ∈ GW := GW_in 1523 rfl rfl
set_option maxRecDepth 50000 in
theorem gi_X12_findRows : Cond.instanceMethod yX12_findRows ∈ GW := GW_in 1522 rfl rfl
theorem gs_X12_findRows : Cond.selects RX12 yX12_findRows yX12_findRows ∈ GW := GW_in 73 rfl rfl
theorem mf_X12_findRows : MF yX12_findRows cX12_findRows 5 none 2 := ⟨⟨by decide +kernel, by decide +kernel, by decide +kernel⟩, gc_X12_findRows, gz_RX12, by decide⟩
set_option maxRecDepth 50000 in
theorem gc_X12_leaf : Cond.code yX12_leaf cX12_leaf 4 none ∈ GW := GW_in 1527 rfl rfl
set_option maxRecDepth 50000 in
theorem gi_X12_leaf : Cond.instanceMethod yX12_leaf ∈ GW := GW_in 1526 rfl rfl
theorem gs_X12_leaf : Cond.selects RX12 yX12_leaf yX12_leaf ∈ GW := GW_in 74 rfl rfl
theorem mf_X12_leaf : MF yX12_leaf cX12_leaf 4 none 2 := ⟨⟨by decide +kernel, by decide +kernel, by decide +kernel⟩, gc_X12_leaf, gz_RX12, by decide⟩
set_option maxRecDepth 50000 in
theorem gc_X12_isAsNow : Cond.code yX12_isAsNow cX12_isAsNow 3 (some .boolean) ∈ GW := GW_in 1531 rfl rfl
set_option maxRecDepth 50000 in
theorem gi_X12_isAsNow : Cond.instanceMethod yX12_isAsNow ∈ GW := GW_in 1530 rfl rfl
theorem gs_X12_isAsNow : Cond.selects RX12 yX12_isAsNow yX12_isAsNow ∈ GW := GW_in 75 rfl rfl
theorem mf_X12_isAsNow : MF yX12_isAsNow cX12_isAsNow 3 (some .boolean) 0 := ⟨⟨by decide +kernel, by decide +kernel, by decide +kernel⟩, gc_X12_isAsNow, gz_RX12, by decide⟩
set_option maxRecDepth 50000 in
theorem gc_X12_isAsSeen : Cond.code yX12_isAsSeen cX12_isAsSeen 4 (some .boolean) ∈ GW := GW_in 1535 rfl rfl
set_option maxRecDepth 50000 in
theorem gi_X12_isAsSeen : Cond.instanceMethod yX12_isAsSeen ∈ GW := GW_in 1534 rfl rfl
theorem gs_X12_isAsSeen : Cond.selects RX12 yX12_isAsSeen yX12_isAsSeen ∈ GW := GW_in 76 rfl rfl
theorem mf_X12_isAsSeen : MF yX12_isAsSeen cX12_isAsSeen 4 (some .boolean) 0 := ⟨⟨by decide +kernel, by decide +kernel, by decide +kernel⟩, gc_X12_isAsSeen, gz_RX12, by decide⟩
set_option maxRecDepth 50000 in
theorem gc_X12_enters : Cond.code yX12_enters cX12_enters 3 none ∈ GW := GW_in 1540 rfl rfl
set_option maxRecDepth 50000 in
theorem gi_X12_enters : Cond.instanceMethod yX12_enters ∈ GW := GW_in 1539 rfl rfl
theorem gs_X12_enters : Cond.selects RX12 yX12_enters yX12_enters ∈ GW := GW_in 77 rfl rfl
theorem mf_X12_enters : MF yX12_enters cX12_enters 3 none 2 := ⟨⟨by decide +kernel, by decide +kernel, by decide +kernel⟩, gc_X12_enters, gz_RX12, by decide⟩
set_option maxRecDepth 50000 in
theorem gc_X12_see : Cond.code yX12_see cX12_see 3 (some .int) ∈ GW := GW_in 1544 rfl rfl
set_option maxRecDepth 50000 in
theorem gi_X12_see : Cond.instanceMethod yX12_see ∈ GW := GW_in 1542 rfl rfl
set_option maxRecDepth 50000 in
theorem gs_X12_see : Cond.selects RX12 yX12_see yX12_see ∈ GW := GW_in 1543 rfl rfl
theorem mf_X12_see : MF yX12_see cX12_see 3 (some .int) 2 := ⟨⟨by decide +kernel, by decide +kernel, by decide +kernel⟩, gc_X12_see, gz_RX12, by decide⟩
set_option maxRecDepth 50000 in
theorem gc_X12_forget : Cond.code yX12_forget cX12_forget 3 (some .int) ∈ GW := GW_in 1548 rfl rfl
set_option maxRecDepth 50000 in
theorem gi_X12_forget : Cond.instanceMethod yX12_forget ∈ GW := GW_in 1546 rfl rfl
set_option maxRecDepth 50000 in
theorem gs_X12_forget : Cond.selects RX12 yX12_forget yX12_forget ∈ GW := GW_in 1547 rfl rfl
theorem mf_X12_forget : MF yX12_forget cX12_forget 3 (some .int) 1 := ⟨⟨by decide +kernel, by decide +kernel, by decide +kernel⟩, gc_X12_forget, gz_RX12, by decide⟩
set_option maxRecDepth 50000 in
theorem gc_X12_fits : Cond.code yX12_fits cX12_fits 2 (some .int) ∈ GW := GW_in 1552 rfl rfl
set_option maxRecDepth 50000 in
theorem gi_X12_fits : Cond.instanceMethod yX12_fits ∈ GW := GW_in 1550 rfl rfl
set_option maxRecDepth 50000 in
theorem gs_X12_fits : Cond.selects RX12 yX12_fits yX12_fits ∈ GW := GW_in 1551 rfl rfl
theorem mf_X12_fits : MF yX12_fits cX12_fits 2 (some .int) 1 := ⟨⟨by decide +kernel, by decide +kernel, by decide +kernel⟩, gc_X12_fits, gz_RX12, by decide⟩
set_option maxRecDepth 50000 in
theorem gc_X12_where : Cond.code yX12_where cX12_where 3 (some .int) ∈ GW := GW_in 1556 rfl rfl
set_option maxRecDepth 50000 in
theorem gi_X12_where : Cond.instanceMethod yX12_where ∈ GW := GW_in 1554 rfl rfl
set_option maxRecDepth 50000 in
theorem gs_X12_where : Cond.selects RX12 yX12_where yX12_where ∈ GW := GW_in 1555 rfl rfl
theorem mf_X12_where : MF yX12_where cX12_where 3 (some .int) 2 := ⟨⟨by decide +kernel, by decide +kernel, by decide +kernel⟩, gc_X12_where, gz_RX12, by decide⟩
set_option maxRecDepth 50000 in
theorem gc_X12_tell : Cond.code yX12_tell cX12_tell 2 (some .int) ∈ GW := GW_in 1560 rfl rfl
set_option maxRecDepth 50000 in
theorem gi_X12_tell : Cond.instanceMethod yX12_tell ∈ GW := GW_in 1558 rfl rfl
set_option maxRecDepth 50000 in
theorem gs_X12_tell : Cond.selects RX12 yX12_tell yX12_tell ∈ GW := GW_in 1559 rfl rfl
theorem mf_X12_tell : MF yX12_tell cX12_tell 2 (some .int) 1 := ⟨⟨by decide +kernel, by decide +kernel, by decide +kernel⟩, gc_X12_tell, gz_RX12, by decide⟩
set_option maxRecDepth 50000 in
theorem gc_X12_drop : Cond.code yX12_drop cX12_drop 3 (some .int) ∈ GW := GW_in 1564 rfl rfl
set_option maxRecDepth 50000 in
theorem gi_X12_drop : Cond.instanceMethod yX12_drop ∈ GW := GW_in 1562 rfl rfl
set_option maxRecDepth 50000 in
theorem gs_X12_drop : Cond.selects RX12 yX12_drop yX12_drop ∈ GW := GW_in 1563 rfl rfl
theorem mf_X12_drop : MF yX12_drop cX12_drop 3 (some .int) 1 := ⟨⟨by decide +kernel, by decide +kernel, by decide +kernel⟩, gc_X12_drop, gz_RX12, by decide⟩
set_option maxRecDepth 50000 in
theorem gc_X12_blow : Cond.code yX12_blow cX12_blow 8 (some .int) ∈ GW := GW_in 1568 rfl rfl
set_option maxRecDepth 50000 in
theorem gi_X12_blow : Cond.instanceMethod yX12_blow ∈ GW := GW_in 1566 rfl rfl
set_option maxRecDepth 50000 in
theorem gs_X12_blow : Cond.selects RX12 yX12_blow yX12_blow ∈ GW := GW_in 1567 rfl rfl
theorem mf_X12_blow : MF yX12_blow cX12_blow 8 (some .int) 1 := ⟨⟨by decide +kernel, by decide +kernel, by decide +kernel⟩, gc_X12_blow, gz_RX12, by decide⟩
set_option maxRecDepth 50000 in
theorem gc_X12_blownOf : Cond.code yX12_blownOf cX12_blownOf 6 (some .int) ∈ GW := GW_in 1573 rfl rfl
set_option maxRecDepth 50000 in
theorem gi_X12_blownOf : Cond.instanceMethod yX12_blownOf ∈ GW := GW_in 1572 rfl rfl
theorem gs_X12_blownOf : Cond.selects RX12 yX12_blownOf yX12_blownOf ∈ GW := GW_in 78 rfl rfl
theorem mf_X12_blownOf : MF yX12_blownOf cX12_blownOf 6 (some .int) 2 := ⟨⟨by decide +kernel, by decide +kernel, by decide +kernel⟩, gc_X12_blownOf, gz_RX12, by decide⟩
set_option maxRecDepth 50000 in
theorem gc_X12_gale : Cond.code yX12_gale cX12_gale 8 (some .int) ∈ GW := GW_in 1577 rfl rfl
set_option maxRecDepth 50000 in
theorem gi_X12_gale : Cond.instanceMethod yX12_gale ∈ GW := GW_in 1575 rfl rfl
set_option maxRecDepth 50000 in
theorem gs_X12_gale : Cond.selects RX12 yX12_gale yX12_gale ∈ GW := GW_in 1576 rfl rfl
theorem mf_X12_gale : MF yX12_gale cX12_gale 8 (some .int) 3 := ⟨⟨by decide +kernel, by decide +kernel, by decide +kernel⟩, gc_X12_gale, gz_RX12, by decide⟩
set_option maxRecDepth 50000 in
theorem gc_X12_keep : Cond.code yX12_keep cX12_keep 3 (some .int) ∈ GW := GW_in 1583 rfl rfl
set_option maxRecDepth 50000 in
theorem gi_X12_keep : Cond.instanceMethod yX12_keep ∈ GW := GW_in 1581 rfl rfl
set_option maxRecDepth 50000 in
theorem gs_X12_keep : Cond.selects RX12 yX12_keep yX12_keep ∈ GW := GW_in 1582 rfl rfl
theorem mf_X12_keep : MF yX12_keep cX12_keep 3 (some .int) 1 := ⟨⟨by decide +kernel, by decide +kernel, by decide +kernel⟩, gc_X12_keep, gz_RX12, by decide⟩
set_option maxRecDepth 50000 in
theorem gc_X12_copies : Cond.code yX12_copies cX12_copies 4 none ∈ GW := GW_in 1587 rfl rfl
set_option maxRecDepth 50000 in
theorem gi_X12_copies : Cond.instanceMethod yX12_copies ∈ GW := GW_in 1586 rfl rfl
theorem gs_X12_copies : Cond.selects RX12 yX12_copies yX12_copies ∈ GW := GW_in 79 rfl rfl
theorem mf_X12_copies : MF yX12_copies cX12_copies 4 none 2 := ⟨⟨by decide +kernel, by decide +kernel, by decide +kernel⟩, gc_X12_copies, gz_RX12, by decide⟩
set_option maxRecDepth 50000 in
theorem gc_X12_back : Cond.code yX12_back cX12_back 2 (some .int) ∈ GW := GW_in 1591 rfl rfl
set_option maxRecDepth 50000 in
theorem gi_X12_back : Cond.instanceMethod yX12_back ∈ GW := GW_in 1589 rfl rfl
set_option maxRecDepth 50000 in
theorem gs_X12_back : Cond.selects RX12 yX12_back yX12_back ∈ GW := GW_in 1590 rfl rfl
theorem mf_X12_back : MF yX12_back cX12_back 2 (some .int) 1 := ⟨⟨by decide +kernel, by decide +kernel, by decide +kernel⟩, gc_X12_back, gz_RX12, by decide⟩
set_option maxRecDepth 50000 in
theorem gc_X12_sheet : Cond.code yX12_sheet cX12_sheet 5 (some .int) ∈ GW := GW_in 1595 rfl rfl
set_option maxRecDepth 50000 in
theorem gi_X12_sheet : Cond.instanceMethod yX12_sheet ∈ GW := GW_in 1593 rfl rfl
set_option maxRecDepth 50000 in
theorem gs_X12_sheet : Cond.selects RX12 yX12_sheet yX12_sheet ∈ GW := GW_in 1594 rfl rfl
theorem mf_X12_sheet : MF yX12_sheet cX12_sheet 5 (some .int) 3 := ⟨⟨by decide +kernel, by decide +kernel, by decide +kernel⟩, gc_X12_sheet, gz_RX12, by decide⟩
set_option maxRecDepth 50000 in
theorem gc_X12_isSheet : Cond.code yX12_isSheet cX12_isSheet 2 (some .boolean) ∈ GW := GW_in 1598 rfl rfl
set_option maxRecDepth 50000 in
theorem gt_X12_isSheet : Cond.static yX12_isSheet ∈ GW := GW_in 1597 rfl rfl
theorem mf_X12_isSheet : MF yX12_isSheet cX12_isSheet 2 (some .boolean) 2 := ⟨⟨by decide +kernel, by decide +kernel, by decide +kernel⟩, gc_X12_isSheet, gz_RX12, by decide⟩
set_option maxRecDepth 50000 in
theorem gc_X12_lay : Cond.code yX12_lay cX12_lay 4 (some .int) ∈ GW := GW_in 1603 rfl rfl
set_option maxRecDepth 50000 in
theorem gi_X12_lay : Cond.instanceMethod yX12_lay ∈ GW := GW_in 1601 rfl rfl
set_option maxRecDepth 50000 in
theorem gs_X12_lay : Cond.selects RX12 yX12_lay yX12_lay ∈ GW := GW_in 1602 rfl rfl
theorem mf_X12_lay : MF yX12_lay cX12_lay 4 (some .int) 3 := ⟨⟨by decide +kernel, by decide +kernel, by decide +kernel⟩, gc_X12_lay, gz_RX12, by decide⟩
set_option maxRecDepth 50000 in
theorem gc_X12_read : Cond.code yX12_read cX12_read 11 (some .int) ∈ GW := GW_in 1607 rfl rfl
set_option maxRecDepth 50000 in
theorem gi_X12_read : Cond.instanceMethod yX12_read ∈ GW := GW_in 1605 rfl rfl
set_option maxRecDepth 50000 in
theorem gs_X12_read : Cond.selects RX12 yX12_read yX12_read ∈ GW := GW_in 1606 rfl rfl
theorem mf_X12_read : MF yX12_read cX12_read 11 (some .int) 4 := ⟨⟨by decide +kernel, by decide +kernel, by decide +kernel⟩, gc_X12_read, gz_RX12, by decide⟩
set_option maxRecDepth 50000 in
theorem gc_X12_torn : Cond.code yX12_torn cX12_torn 1 (some .int) ∈ GW := GW_in 1613 rfl rfl
set_option maxRecDepth 50000 in
theorem gi_X12_torn : Cond.instanceMethod yX12_torn ∈ GW := GW_in 1611 rfl rfl
set_option maxRecDepth 50000 in
theorem gs_X12_torn : Cond.selects RX12 yX12_torn yX12_torn ∈ GW := GW_in 1612 rfl rfl
theorem mf_X12_torn : MF yX12_torn cX12_torn 1 (some .int) 0 := ⟨⟨by decide +kernel, by decide +kernel, by decide +kernel⟩, gc_X12_torn, gz_RX12, by decide⟩
set_option maxRecDepth 50000 in
theorem gc_X12_count : Cond.code yX12_count cX12_count 5 (some .int) ∈ GW := GW_in 1617 rfl rfl
set_option maxRecDepth 50000 in
theorem gi_X12_count : Cond.instanceMethod yX12_count ∈ GW := GW_in 1615 rfl rfl
set_option maxRecDepth 50000 in
theorem gs_X12_count : Cond.selects RX12 yX12_count yX12_count ∈ GW := GW_in 1616 rfl rfl
theorem mf_X12_count : MF yX12_count cX12_count 5 (some .int) 1 := ⟨⟨by decide +kernel, by decide +kernel, by decide +kernel⟩, gc_X12_count, gz_RX12, by decide⟩
theorem gl_RL_9 : Cond.methodLink RL 9 yX11_init ∈ GW := GW_in 103 rfl rfl
theorem lk_RL_9 : LinkI RL 9 yX11_init := ⟨Or.inl gl_RL_9, gi_X11_init, rfl⟩
theorem gl_RX11_31 : Cond.methodLink RX11 31 yX11_chain ∈ GW := GW_in 276 rfl rfl
theorem lk_RX11_31 : LinkS RX11 31 yX11_chain := ⟨Or.inl gl_RX11_31, gt_X11_chain⟩
theorem gl_RX11_364 : Cond.methodLink RX11 364 yX9_init ∈ GW := GW_in 281 rfl rfl
theorem lk_RX11_364 : LinkI RX11 364 yX9_init := ⟨Or.inl gl_RX11_364, gi_X9_init, rfl⟩
set_option maxRecDepth 50000 in
theorem gl_RX11_55 : Cond.methodLink RX11 55 yX7_init ∈ GW := GW_in 391 rfl rfl
theorem lk_RX11_55 : LinkI RX11 55 yX7_init := ⟨Or.inl gl_RX11_55, gi_X7_init, rfl⟩
set_option maxRecDepth 50000 in
theorem gl_RX11_67 : Cond.methodLink RX11 67 yX3_clear ∈ GW := GW_in 409 rfl rfl
theorem lk_RX11_67 : LinkV RX11 67 yX3_clear := ⟨Or.inl gl_RX11_67, gi_X3_clear, gs_X3_clear⟩
set_option maxRecDepth 50000 in
theorem gl_RX3_35 : Cond.methodLink RX3 35 yX5_clear ∈ GW := GW_in 413 rfl rfl
theorem lk_RX3_35 : LinkV RX3 35 yX5_clear := ⟨Or.inl gl_RX3_35, gi_X5_clear, gs_X5_clear⟩
set_option maxRecDepth 50000 in
theorem gl_RX3_38 : Cond.methodLink RX3 38 yX8_clear ∈ GW := GW_in 417 rfl rfl
theorem lk_RX3_38 : LinkV RX3 38 yX8_clear := ⟨Or.inl gl_RX3_38, gi_X8_clear, gs_X8_clear⟩
set_option maxRecDepth 50000 in
theorem gl_RX11_70 : Cond.methodLink RX11 70 yX3_addTwoKings ∈ GW := GW_in 421 rfl rfl
theorem lk_RX11_70 : LinkV RX11 70 yX3_addTwoKings := ⟨Or.inl gl_RX11_70, gi_X3_addTwoKings, gs_X3_addTwoKings⟩
set_option maxRecDepth 50000 in
theorem gl_RX3_79 : Cond.methodLink RX3 79 yX3_addPiece ∈ GW := GW_in 425 rfl rfl
theorem lk_RX3_79 : LinkV RX3 79 yX3_addPiece := ⟨Or.inl gl_RX3_79, gi_X3_addPiece, gs_X3_addPiece⟩
set_option maxRecDepth 50000 in
theorem gl_RX3_71 : Cond.methodLink RX3 71 yX8_settle ∈ GW := GW_in 429 rfl rfl
theorem lk_RX3_71 : LinkV RX3 71 yX8_settle := ⟨Or.inl gl_RX3_71, gi_X8_settle, gs_X8_settle⟩
set_option maxRecDepth 50000 in
theorem gl_RX8_31 : Cond.methodLink RX8 31 yX5_sideOf ∈ GW := GW_in 433 rfl rfl
theorem lk_RX8_31 : LinkV RX8 31 yX5_sideOf := ⟨Or.inl gl_RX8_31, gi_X5_sideOf, gs_X5_sideOf⟩
set_option maxRecDepth 50000 in
theorem gl_RX8_41 : Cond.methodLink RX8 41 yX5_bitOf ∈ GW := GW_in 440 rfl rfl
theorem lk_RX8_41 : LinkS RX8 41 yX5_bitOf := ⟨Or.inl gl_RX8_41, gt_X5_bitOf⟩
set_option maxRecDepth 50000 in
theorem gl_RX3_75 : Cond.methodLink RX3 75 yX8_fill ∈ GW := GW_in 443 rfl rfl
theorem lk_RX3_75 : LinkV RX3 75 yX8_fill := ⟨Or.inl gl_RX3_75, gi_X8_fill, gs_X8_fill⟩
set_option maxRecDepth 50000 in
theorem gl_RX3_83 : Cond.methodLink RX3 83 yX5_squares ∈ GW := GW_in 447 rfl rfl
theorem lk_RX3_83 : LinkV RX3 83 yX5_squares := ⟨Or.inl gl_RX3_83, gi_X5_squares, gs_X5_squares⟩
set_option maxRecDepth 50000 in
theorem gl_RL_15 : Cond.methodLink RL 15 yX11_feed ∈ GW := GW_in 485 rfl rfl
theorem lk_RL_15 : LinkV RL 15 yX11_feed := ⟨Or.inl gl_RL_15, gi_X11_feed, gs_X11_feed⟩
set_option maxRecDepth 50000 in
theorem gl_RX11_73 : Cond.methodLink RX11 73 yX10_append ∈ GW := GW_in 489 rfl rfl
theorem lk_RX11_73 : LinkV RX11 73 yX10_append := ⟨Or.inl gl_RX11_73, gi_X10_append, gs_X10_append⟩
set_option maxRecDepth 50000 in
theorem gl_RL_20 : Cond.methodLink RL 20 yX11_end ∈ GW := GW_in 493 rfl rfl
theorem lk_RL_20 : LinkV RL 20 yX11_end := ⟨Or.inl gl_RL_20, gi_X11_end, gs_X11_end⟩
set_option maxRecDepth 50000 in
theorem gl_RL_25 : Cond.methodLink RL 25 yX11_text ∈ GW := GW_in 497 rfl rfl
theorem lk_RL_25 : LinkV RL 25 yX11_text := ⟨Or.inl gl_RL_25, gi_X11_text, gs_X11_text⟩
set_option maxRecDepth 50000 in
theorem gl_RX11_81 : Cond.methodLink RX11 81 yX10_tellAll ∈ GW := GW_in 501 rfl rfl
theorem lk_RX11_81 : LinkV RX11 81 yX10_tellAll := ⟨Or.inl gl_RX11_81, gi_X10_tellAll, gs_X10_tellAll⟩
set_option maxRecDepth 50000 in
theorem gl_RX10_26 : Cond.methodLink RX10 26 yX3_clear ∈ GW := GW_in 505 rfl rfl
theorem lk_RX10_26 : LinkV RX10 26 yX3_clear := ⟨Or.inl gl_RX10_26, gi_X3_clear, gs_X3_clear⟩
set_option maxRecDepth 50000 in
theorem gl_RX10_51 : Cond.methodLink RX10 51 yX10_readToken ∈ GW := GW_in 506 rfl rfl
theorem lk_RX10_51 : LinkV RX10 51 yX10_readToken := ⟨Or.inl gl_RX10_51, gi_X10_readToken, gs_X10_readToken⟩
set_option maxRecDepth 50000 in
theorem gl_RX10_196 : Cond.methodLink RX10 196 yX10_endOfRun ∈ GW := GW_in 510 rfl rfl
theorem lk_RX10_196 : LinkV RX10 196 yX10_endOfRun := ⟨Or.inl gl_RX10_196, gi_X10_endOfRun, gs_X10_endOfRun⟩
set_option maxRecDepth 50000 in
theorem gl_RX10_200 : Cond.methodLink RX10 200 yX10_byteAt ∈ GW := GW_in 514 rfl rfl
theorem lk_RX10_200 : LinkV RX10 200 yX10_byteAt := ⟨Or.inl gl_RX10_200, gi_X10_byteAt, gs_X10_byteAt⟩
set_option maxRecDepth 50000 in
theorem gl_RX10_96 : Cond.methodLink RX10 96 yX10_fail ∈ GW := GW_in 518 rfl rfl
theorem lk_RX10_96 : LinkV RX10 96 yX10_fail := ⟨Or.inl gl_RX10_96, gi_X10_fail, gs_X10_fail⟩
set_option maxRecDepth 50000 in
theorem gl_RX10_58 : Cond.methodLink RX10 58 yX10_isWhole ∈ GW := GW_in 522 rfl rfl
theorem lk_RX10_58 : LinkV RX10 58 yX10_isWhole := ⟨Or.inl gl_RX10_58, gi_X10_isWhole, gs_X10_isWhole⟩
set_option maxRecDepth 50000 in
theorem gl_RX10_171 : Cond.methodLink RX10 171 yX10_hasItsSquares ∈ GW := GW_in 526 rfl rfl
theorem lk_RX10_171 : LinkV RX10 171 yX10_hasItsSquares := ⟨Or.inl gl_RX10_171, gi_X10_hasItsSquares, gs_X10_hasItsSquares⟩
set_option maxRecDepth 50000 in
theorem gl_RX10_187 : Cond.methodLink RX10 187 yX8_heldBy ∈ GW := GW_in 530 rfl rfl
theorem lk_RX10_187 : LinkV RX10 187 yX8_heldBy := ⟨Or.inl gl_RX10_187, gi_X8_heldBy, gs_X8_heldBy⟩
set_option maxRecDepth 50000 in
theorem gl_RX10_178 : Cond.methodLink RX10 178 yX5_squares ∈ GW := GW_in 534 rfl rfl
theorem lk_RX10_178 : LinkV RX10 178 yX5_squares := ⟨Or.inl gl_RX10_178, gi_X5_squares, gs_X5_squares⟩
set_option maxRecDepth 50000 in
theorem gl_RX10_174 : Cond.methodLink RX10 174 yX10_kings ∈ GW := GW_in 535 rfl rfl
theorem lk_RX10_174 : LinkV RX10 174 yX10_kings := ⟨Or.inl gl_RX10_174, gi_X10_kings, gs_X10_kings⟩
set_option maxRecDepth 50000 in
theorem gl_RX10_190 : Cond.methodLink RX10 190 yX5_kindOf ∈ GW := GW_in 539 rfl rfl
theorem lk_RX10_190 : LinkV RX10 190 yX5_kindOf := ⟨Or.inl gl_RX10_190, gi_X5_kindOf, gs_X5_kindOf⟩
set_option maxRecDepth 50000 in
theorem gl_RX10_193 : Cond.methodLink RX10 193 yX5_sideOf ∈ GW := GW_in 543 rfl rfl
theorem lk_RX10_193 : LinkV RX10 193 yX5_sideOf := ⟨Or.inl gl_RX10_193, gi_X5_sideOf, gs_X5_sideOf⟩
set_option maxRecDepth 50000 in
theorem gl_RX10_155 : Cond.methodLink RX10 155 yX5_isClosed ∈ GW := GW_in 544 rfl rfl
theorem lk_RX10_155 : LinkV RX10 155 yX5_isClosed := ⟨Or.inl gl_RX10_155, gi_X5_isClosed, gs_X5_isClosed⟩
set_option maxRecDepth 50000 in
theorem gl_RX5_44 : Cond.methodLink RX5 44 yX5_bitOf ∈ GW := GW_in 548 rfl rfl
theorem lk_RX5_44 : LinkS RX5 44 yX5_bitOf := ⟨Or.inl gl_RX5_44, gt_X5_bitOf⟩
set_option maxRecDepth 50000 in
theorem gl_RX10_181 : Cond.methodLink RX10 181 yX3_addTwoKings ∈ GW := GW_in 549 rfl rfl
theorem lk_RX10_181 : LinkV RX10 181 yX3_addTwoKings := ⟨Or.inl gl_RX10_181, gi_X3_addTwoKings, gs_X3_addTwoKings⟩
set_option maxRecDepth 50000 in
theorem gl_RX10_61 : Cond.methodLink RX10 61 yX10_readLine ∈ GW := GW_in 550 rfl rfl
theorem lk_RX10_61 : LinkV RX10 61 yX10_readLine := ⟨Or.inl gl_RX10_61, gi_X10_readLine, gs_X10_readLine⟩
set_option maxRecDepth 50000 in
theorem gl_RX10_66 : Cond.methodLink RX10 66 yX10_isName ∈ GW := GW_in 555 rfl rfl
theorem lk_RX10_66 : LinkV RX10 66 yX10_isName := ⟨Or.inl gl_RX10_66, gi_X10_isName, gs_X10_isName⟩
set_option maxRecDepth 50000 in
theorem gl_RX10_203 : Cond.methodLink RX10 203 yJ0_length_8abf5 ∈ GW := GW_in 559 rfl rfl
theorem lk_RX10_203 : LinkV RX10 203 yJ0_length_8abf5 := ⟨Or.inl gl_RX10_203, gi_J0_length_8abf5, gs_J0_length_8abf5⟩
set_option maxRecDepth 50000 in
theorem gl_RJ0_335 : Cond.methodLink RJ0 335 yJ0_coder_7d493 ∈ GW := GW_in 563 rfl rfl
theorem lk_RJ0_335 : LinkV RJ0 335 yJ0_coder_7d493 := ⟨Or.inl gl_RJ0_335, gi_J0_coder_7d493, gs_J0_coder_7d493⟩
set_option maxRecDepth 50000 in
theorem gl_RX10_207 : Cond.methodLink RX10 207 yJ0_charAt_5068e ∈ GW := GW_in 569 rfl rfl
theorem lk_RX10_207 : LinkV RX10 207 yJ0_charAt_5068e := ⟨Or.inl gl_RX10_207, gi_J0_charAt_5068e, gs_J0_charAt_5068e⟩
set_option maxRecDepth 50000 in
theorem gl_RJ0_492 : Cond.methodLink RJ0 492 yJ0_isLatin1_aae02 ∈ GW := GW_in 573 rfl rfl
theorem lk_RJ0_492 : LinkV RJ0 492 yJ0_isLatin1_aae02 := ⟨Or.inl gl_RJ0_492, gi_J0_isLatin1_aae02, gs_J0_isLatin1_aae02⟩
set_option maxRecDepth 50000 in
theorem gl_RJ0_495 : Cond.methodLink RJ0 495 yJ1_charAt_3b067 ∈ GW := GW_in 577 rfl rfl
theorem lk_RJ0_495 : LinkS RJ0 495 yJ1_charAt_3b067 := ⟨Or.inl gl_RJ0_495, gt_J1_charAt_3b067⟩
set_option maxRecDepth 50000 in
theorem gl_RJ1_9 : Cond.methodLink RJ1 9 yJ0_checkIndex_df160 ∈ GW := GW_in 580 rfl rfl
theorem lk_RJ1_9 : LinkS RJ1 9 yJ0_checkIndex_df160 := ⟨Or.inl gl_RJ1_9, gt_J0_checkIndex_df160⟩
set_option maxRecDepth 50000 in
theorem gl_RJ0_1059 : Cond.methodLink RJ0 1059 yJ3_checkIndex_8e157 ∈ GW := GW_in 585 rfl rfl
theorem lk_RJ0_1059 : LinkS RJ0 1059 yJ3_checkIndex_8e157 := ⟨Or.inl gl_RJ0_1059, gt_J3_checkIndex_8e157⟩
set_option maxRecDepth 50000 in
theorem gl_RJ0_498 : Cond.methodLink RJ0 498 yJ2_charAt_3b067 ∈ GW := GW_in 588 rfl rfl
theorem lk_RJ0_498 : LinkS RJ0 498 yJ2_charAt_3b067 := ⟨Or.inl gl_RJ0_498, gt_J2_charAt_3b067⟩
set_option maxRecDepth 50000 in
theorem gl_RJ2_67 : Cond.methodLink RJ2 67 yJ2_checkIndex_2214a ∈ GW := GW_in 591 rfl rfl
theorem lk_RJ2_67 : LinkS RJ2 67 yJ2_checkIndex_2214a := ⟨Or.inl gl_RJ2_67, gt_J2_checkIndex_2214a⟩
set_option maxRecDepth 50000 in
theorem gl_RJ2_48 : Cond.methodLink RJ2 48 yJ2_length_9d52b ∈ GW := GW_in 594 rfl rfl
theorem lk_RJ2_48 : LinkS RJ2 48 yJ2_length_9d52b := ⟨Or.inl gl_RJ2_48, gt_J2_length_9d52b⟩
set_option maxRecDepth 50000 in
theorem gl_RJ2_414 : Cond.methodLink RJ2 414 yJ0_checkIndex_df160 ∈ GW := GW_in 597 rfl rfl
theorem lk_RJ2_414 : LinkS RJ2 414 yJ0_checkIndex_df160 := ⟨Or.inl gl_RJ2_414, gt_J0_checkIndex_df160⟩
set_option maxRecDepth 50000 in
theorem gl_RJ2_71 : Cond.methodLink RJ2 71 yJ2_getChar_3b067 ∈ GW := GW_in 598 rfl rfl
theorem lk_RJ2_71 : LinkS RJ2 71 yJ2_getChar_3b067 := ⟨Or.inl gl_RJ2_71, gt_J2_getChar_3b067⟩
set_option maxRecDepth 50000 in
theorem gl_RX10_70 : Cond.methodLink RX10 70 yX10_readBoard ∈ GW := GW_in 607 rfl rfl
theorem lk_RX10_70 : LinkV RX10 70 yX10_readBoard := ⟨Or.inl gl_RX10_70, gi_X10_readBoard, gs_X10_readBoard⟩
set_option maxRecDepth 50000 in
theorem gl_RX10_100 : Cond.methodLink RX10 100 yX10_readNumber ∈ GW := GW_in 611 rfl rfl
theorem lk_RX10_100 : LinkV RX10 100 yX10_readNumber := ⟨Or.inl gl_RX10_100, gi_X10_readNumber, gs_X10_readNumber⟩
set_option maxRecDepth 50000 in
theorem gl_RX10_118 : Cond.methodLink RX10 118 yX10_readSign ∈ GW := GW_in 615 rfl rfl
theorem lk_RX10_118 : LinkV RX10 118 yX10_readSign := ⟨Or.inl gl_RX10_118, gi_X10_readSign, gs_X10_readSign⟩
set_option maxRecDepth 50000 in
theorem gl_RX10_75 : Cond.methodLink RX10 75 yX10_readSteeple ∈ GW := GW_in 620 rfl rfl
theorem lk_RX10_75 : LinkV RX10 75 yX10_readSteeple := ⟨Or.inl gl_RX10_75, gi_X10_readSteeple, gs_X10_readSteeple⟩
set_option maxRecDepth 50000 in
theorem gl_RX10_121 : Cond.methodLink RX10 121 yX10_readFreeSquare ∈ GW := GW_in 624 rfl rfl
theorem lk_RX10_121 : LinkV RX10 121 yX10_readFreeSquare := ⟨Or.inl gl_RX10_121, gi_X10_readFreeSquare, gs_X10_readFreeSquare⟩
set_option maxRecDepth 50000 in
theorem gl_RX10_159 : Cond.methodLink RX10 159 yX8_pieceOn ∈ GW := GW_in 628 rfl rfl
theorem lk_RX10_159 : LinkV RX10 159 yX8_pieceOn := ⟨Or.inl gl_RX10_159, gi_X8_pieceOn, gs_X8_pieceOn⟩
set_option maxRecDepth 50000 in
theorem gl_RX8_47 : Cond.methodLink RX8 47 yX8_placeOf ∈ GW := GW_in 632 rfl rfl
theorem lk_RX8_47 : LinkV RX8 47 yX8_placeOf := ⟨Or.inl gl_RX8_47, gi_X8_placeOf, gs_X8_placeOf⟩
set_option maxRecDepth 50000 in
theorem gl_RX10_124 : Cond.methodLink RX10 124 yX5_close ∈ GW := GW_in 636 rfl rfl
theorem lk_RX10_124 : LinkV RX10 124 yX5_close := ⟨Or.inl gl_RX10_124, gi_X5_close, gs_X5_close⟩
set_option maxRecDepth 50000 in
theorem gl_RX10_80 : Cond.methodLink RX10 80 yX10_readPiece ∈ GW := GW_in 641 rfl rfl
theorem lk_RX10_80 : LinkV RX10 80 yX10_readPiece := ⟨Or.inl gl_RX10_80, gi_X10_readPiece, gs_X10_readPiece⟩
set_option maxRecDepth 50000 in
theorem gl_RX10_131 : Cond.methodLink RX10 131 yX10_kindNamed ∈ GW := GW_in 645 rfl rfl
theorem lk_RX10_131 : LinkV RX10 131 yX10_kindNamed := ⟨Or.inl gl_RX10_131, gi_X10_kindNamed, gs_X10_kindNamed⟩
set_option maxRecDepth 50000 in
theorem gl_RX10_135 : Cond.methodLink RX10 135 yX3_addPiece ∈ GW := GW_in 653 rfl rfl
theorem lk_RX10_135 : LinkV RX10 135 yX3_addPiece := ⟨Or.inl gl_RX10_135, gi_X3_addPiece, gs_X3_addPiece⟩
set_option maxRecDepth 50000 in
theorem gl_RX10_85 : Cond.methodLink RX10 85 yX10_readOdds ∈ GW := GW_in 655 rfl rfl
theorem lk_RX10_85 : LinkV RX10 85 yX10_readOdds := ⟨Or.inl gl_RX10_85, gi_X10_readOdds, gs_X10_readOdds⟩
set_option maxRecDepth 50000 in
theorem gl_RX10_139 : Cond.methodLink RX10 139 yX5_setOdds ∈ GW := GW_in 659 rfl rfl
theorem lk_RX10_139 : LinkV RX10 139 yX5_setOdds := ⟨Or.inl gl_RX10_139, gi_X5_setOdds, gs_X5_setOdds⟩
set_option maxRecDepth 50000 in
theorem gl_RX10_143 : Cond.methodLink RX10 143 yX5_allOdds ∈ GW := GW_in 663 rfl rfl
theorem lk_RX10_143 : LinkV RX10 143 yX5_allOdds := ⟨Or.inl gl_RX10_143, gi_X5_allOdds, gs_X5_allOdds⟩
set_option maxRecDepth 50000 in
theorem gl_RX10_90 : Cond.methodLink RX10 90 yX10_readTurn ∈ GW := GW_in 668 rfl rfl
theorem lk_RX10_90 : LinkV RX10 90 yX10_readTurn := ⟨Or.inl gl_RX10_90, gi_X10_readTurn, gs_X10_readTurn⟩
set_option maxRecDepth 50000 in
theorem gl_RX11_97 : Cond.methodLink RX11 97 yX3_copyFrom ∈ GW := GW_in 672 rfl rfl
theorem lk_RX11_97 : LinkV RX11 97 yX3_copyFrom := ⟨Or.inl gl_RX11_97, gi_X3_copyFrom, gs_X3_copyFrom⟩
set_option maxRecDepth 50000 in
theorem gl_RX3_49 : Cond.methodLink RX3 49 yX5_copyFrom ∈ GW := GW_in 676 rfl rfl
theorem lk_RX3_49 : LinkV RX3 49 yX5_copyFrom := ⟨Or.inl gl_RX3_49, gi_X5_copyFrom, gs_X5_copyFrom⟩
set_option maxRecDepth 50000 in
theorem gl_RX3_53 : Cond.methodLink RX3 53 yX8_copyFrom ∈ GW := GW_in 683 rfl rfl
theorem lk_RX3_53 : LinkV RX3 53 yX8_copyFrom := ⟨Or.inl gl_RX3_53, gi_X8_copyFrom, gs_X8_copyFrom⟩
set_option maxRecDepth 50000 in
theorem gl_RL_30 : Cond.methodLink RL 30 yX11_fault ∈ GW := GW_in 689 rfl rfl
theorem lk_RL_30 : LinkV RL 30 yX11_fault := ⟨Or.inl gl_RL_30, gi_X11_fault, gs_X11_fault⟩
set_option maxRecDepth 50000 in
theorem gl_RL_34 : Cond.methodLink RL 34 yX11_rule ∈ GW := GW_in 693 rfl rfl
theorem lk_RL_34 : LinkV RL 34 yX11_rule := ⟨Or.inl gl_RL_34, gi_X11_rule, gs_X11_rule⟩
set_option maxRecDepth 50000 in
theorem gl_RX11_131 : Cond.methodLink RX11 131 yX8_lostSide ∈ GW := GW_in 697 rfl rfl
theorem lk_RX11_131 : LinkV RX11 131 yX8_lostSide := ⟨Or.inl gl_RX11_131, gi_X8_lostSide, gs_X8_lostSide⟩
set_option maxRecDepth 50000 in
theorem gl_RX8_50 : Cond.methodLink RX8 50 yX5_kindOf ∈ GW := GW_in 701 rfl rfl
theorem lk_RX8_50 : LinkV RX8 50 yX5_kindOf := ⟨Or.inl gl_RX8_50, gi_X5_kindOf, gs_X5_kindOf⟩
set_option maxRecDepth 50000 in
theorem gl_RL_38 : Cond.methodLink RL 38 yX11_square ∈ GW := GW_in 702 rfl rfl
theorem lk_RL_38 : LinkV RL 38 yX11_square := ⟨Or.inl gl_RL_38, gi_X11_square, gs_X11_square⟩
set_option maxRecDepth 50000 in
theorem gl_RX11_135 : Cond.methodLink RX11 135 yX5_isSquare ∈ GW := GW_in 706 rfl rfl
theorem lk_RX11_135 : LinkV RX11 135 yX5_isSquare := ⟨Or.inl gl_RX11_135, gi_X5_isSquare, gs_X5_isSquare⟩
set_option maxRecDepth 50000 in
theorem gl_RX11_139 : Cond.methodLink RX11 139 yX8_pieceOn ∈ GW := GW_in 710 rfl rfl
theorem lk_RX11_139 : LinkV RX11 139 yX8_pieceOn := ⟨Or.inl gl_RX11_139, gi_X8_pieceOn, gs_X8_pieceOn⟩
set_option maxRecDepth 50000 in
theorem gl_RL_42 : Cond.methodLink RL 42 yX11_piece ∈ GW := GW_in 711 rfl rfl
theorem lk_RL_42 : LinkV RL 42 yX11_piece := ⟨Or.inl gl_RL_42, gi_X11_piece, gs_X11_piece⟩
set_option maxRecDepth 50000 in
theorem gl_RX11_143 : Cond.methodLink RX11 143 yX5_isPiece ∈ GW := GW_in 715 rfl rfl
theorem lk_RX11_143 : LinkV RX11 143 yX5_isPiece := ⟨Or.inl gl_RX11_143, gi_X5_isPiece, gs_X5_isPiece⟩
set_option maxRecDepth 50000 in
theorem gl_RX11_146 : Cond.methodLink RX11 146 yX5_sideOf ∈ GW := GW_in 719 rfl rfl
theorem lk_RX11_146 : LinkV RX11 146 yX5_sideOf := ⟨Or.inl gl_RX11_146, gi_X5_sideOf, gs_X5_sideOf⟩
set_option maxRecDepth 50000 in
theorem gl_RX11_150 : Cond.methodLink RX11 150 yX5_kindOf ∈ GW := GW_in 720 rfl rfl
theorem lk_RX11_150 : LinkV RX11 150 yX5_kindOf := ⟨Or.inl gl_RX11_150, gi_X5_kindOf, gs_X5_kindOf⟩
set_option maxRecDepth 50000 in
theorem gl_RX11_153 : Cond.methodLink RX11 153 yX8_placeOf ∈ GW := GW_in 721 rfl rfl
theorem lk_RX11_153 : LinkV RX11 153 yX8_placeOf := ⟨Or.inl gl_RX11_153, gi_X8_placeOf, gs_X8_placeOf⟩
set_option maxRecDepth 50000 in
theorem gl_RX11_156 : Cond.methodLink RX11 156 yX8_oilOf ∈ GW := GW_in 722 rfl rfl
theorem lk_RX11_156 : LinkV RX11 156 yX8_oilOf := ⟨Or.inl gl_RX11_156, gi_X8_oilOf, gs_X8_oilOf⟩
set_option maxRecDepth 50000 in
theorem gl_RL_47 : Cond.methodLink RL 47 yX11_odd ∈ GW := GW_in 726 rfl rfl
theorem lk_RL_47 : LinkV RL 47 yX11_odd := ⟨Or.inl gl_RL_47, gi_X11_odd, gs_X11_odd⟩
set_option maxRecDepth 50000 in
theorem gl_RX11_159 : Cond.methodLink RX11 159 yX11_isWind ∈ GW := GW_in 730 rfl rfl
theorem lk_RX11_159 : LinkS RX11 159 yX11_isWind := ⟨Or.inl gl_RX11_159, gt_X11_isWind⟩
set_option maxRecDepth 50000 in
theorem gl_RX11_162 : Cond.methodLink RX11 162 yX5_oddsOf ∈ GW := GW_in 733 rfl rfl
theorem lk_RX11_162 : LinkV RX11 162 yX5_oddsOf := ⟨Or.inl gl_RX11_162, gi_X5_oddsOf, gs_X5_oddsOf⟩
set_option maxRecDepth 50000 in
theorem gl_RL_51 : Cond.methodLink RL 51 yX11_oil ∈ GW := GW_in 737 rfl rfl
theorem lk_RL_51 : LinkV RL 51 yX11_oil := ⟨Or.inl gl_RL_51, gi_X11_oil, gs_X11_oil⟩
set_option maxRecDepth 50000 in
theorem gl_RX11_165 : Cond.methodLink RX11 165 yX8_fill ∈ GW := GW_in 741 rfl rfl
theorem lk_RX11_165 : LinkV RX11 165 yX8_fill := ⟨Or.inl gl_RX11_165, gi_X8_fill, gs_X8_fill⟩
set_option maxRecDepth 50000 in
theorem gl_RL_55 : Cond.methodLink RL 55 yX11_put ∈ GW := GW_in 742 rfl rfl
theorem lk_RL_55 : LinkV RL 55 yX11_put := ⟨Or.inl gl_RL_55, gi_X11_put, gs_X11_put⟩
set_option maxRecDepth 50000 in
theorem gl_RX11_169 : Cond.methodLink RX11 169 yX5_isClosed ∈ GW := GW_in 746 rfl rfl
theorem lk_RX11_169 : LinkV RX11 169 yX5_isClosed := ⟨Or.inl gl_RX11_169, gi_X5_isClosed, gs_X5_isClosed⟩
set_option maxRecDepth 50000 in
theorem gl_RX11_172 : Cond.methodLink RX11 172 yX8_settle ∈ GW := GW_in 747 rfl rfl
theorem lk_RX11_172 : LinkV RX11 172 yX8_settle := ⟨Or.inl gl_RX11_172, gi_X8_settle, gs_X8_settle⟩
set_option maxRecDepth 50000 in
theorem gl_RL_59 : Cond.methodLink RL 59 yX11_steeple ∈ GW := GW_in 748 rfl rfl
theorem lk_RL_59 : LinkV RL 59 yX11_steeple := ⟨Or.inl gl_RL_59, gi_X11_steeple, gs_X11_steeple⟩
set_option maxRecDepth 50000 in
theorem gl_RX11_176 : Cond.methodLink RX11 176 yX5_close ∈ GW := GW_in 752 rfl rfl
theorem lk_RX11_176 : LinkV RX11 176 yX5_close := ⟨Or.inl gl_RX11_176, gi_X5_close, gs_X5_close⟩
set_option maxRecDepth 50000 in
theorem gl_RL_64 : Cond.methodLink RL 64 yX11_weigh ∈ GW := GW_in 753 rfl rfl
theorem lk_RL_64 : LinkV RL 64 yX11_weigh := ⟨Or.inl gl_RL_64, gi_X11_weigh, gs_X11_weigh⟩
set_option maxRecDepth 50000 in
theorem gl_RX11_180 : Cond.methodLink RX11 180 yX5_allOdds ∈ GW := GW_in 757 rfl rfl
theorem lk_RX11_180 : LinkV RX11 180 yX5_allOdds := ⟨Or.inl gl_RX11_180, gi_X5_allOdds, gs_X5_allOdds⟩
set_option maxRecDepth 50000 in
theorem gl_RX11_184 : Cond.methodLink RX11 184 yX5_setOdds ∈ GW := GW_in 758 rfl rfl
theorem lk_RX11_184 : LinkV RX11 184 yX5_setOdds := ⟨Or.inl gl_RX11_184, gi_X5_setOdds, gs_X5_setOdds⟩
set_option maxRecDepth 50000 in
theorem gl_RL_68 : Cond.methodLink RL 68 yX11_turn ∈ GW := GW_in 759 rfl rfl
theorem lk_RL_68 : LinkV RL 68 yX11_turn := ⟨Or.inl gl_RL_68, gi_X11_turn, gs_X11_turn⟩
set_option maxRecDepth 50000 in
theorem gl_RX11_187 : Cond.methodLink RX11 187 yX11_isSide ∈ GW := GW_in 763 rfl rfl
theorem lk_RX11_187 : LinkS RX11 187 yX11_isSide := ⟨Or.inl gl_RX11_187, gt_X11_isSide⟩
set_option maxRecDepth 50000 in
theorem gl_RL_72 : Cond.methodLink RL 72 yX11_moves ∈ GW := GW_in 764 rfl rfl
theorem lk_RL_72 : LinkV RL 72 yX11_moves := ⟨Or.inl gl_RL_72, gi_X11_moves, gs_X11_moves⟩
set_option maxRecDepth 50000 in
theorem gl_RX11_190 : Cond.methodLink RX11 190 yX11_listNow ∈ GW := GW_in 768 rfl rfl
theorem lk_RX11_190 : LinkV RX11 190 yX11_listNow := ⟨Or.inl gl_RX11_190, gi_X11_listNow, gs_X11_listNow⟩
set_option maxRecDepth 50000 in
theorem gl_RX11_300 : Cond.methodLink RX11 300 yX8_listMoves ∈ GW := GW_in 772 rfl rfl
theorem lk_RX11_300 : LinkV RX11 300 yX8_listMoves := ⟨Or.inl gl_RX11_300, gi_X8_listMoves, gs_X8_listMoves⟩
set_option maxRecDepth 50000 in
theorem gl_RX8_56 : Cond.methodLink RX8 56 yX8_lostSide ∈ GW := GW_in 776 rfl rfl
theorem lk_RX8_56 : LinkV RX8 56 yX8_lostSide := ⟨Or.inl gl_RX8_56, gi_X8_lostSide, gs_X8_lostSide⟩
set_option maxRecDepth 50000 in
theorem gl_RX8_60 : Cond.methodLink RX8 60 yX8_targets ∈ GW := GW_in 777 rfl rfl
theorem lk_RX8_60 : LinkV RX8 60 yX8_targets := ⟨Or.inl gl_RX8_60, gi_X8_targets, gs_X8_targets⟩
set_option maxRecDepth 50000 in
theorem gl_RX8_53 : Cond.methodLink RX8 53 yX8_oilOf ∈ GW := GW_in 781 rfl rfl
theorem lk_RX8_53 : LinkV RX8 53 yX8_oilOf := ⟨Or.inl gl_RX8_53, gi_X8_oilOf, gs_X8_oilOf⟩
set_option maxRecDepth 50000 in
theorem gl_RX8_67 : Cond.methodLink RX8 67 yX8_heldBy ∈ GW := GW_in 782 rfl rfl
theorem lk_RX8_67 : LinkV RX8 67 yX8_heldBy := ⟨Or.inl gl_RX8_67, gi_X8_heldBy, gs_X8_heldBy⟩
set_option maxRecDepth 50000 in
theorem gl_RX8_70 : Cond.methodLink RX8 70 yX8_run ∈ GW := GW_in 783 rfl rfl
theorem lk_RX8_70 : LinkV RX8 70 yX8_run := ⟨Or.inl gl_RX8_70, gi_X8_run, gs_X8_run⟩
set_option maxRecDepth 50000 in
theorem gl_RX8_76 : Cond.methodLink RX8 76 yX5_nextSquare ∈ GW := GW_in 787 rfl rfl
theorem lk_RX8_76 : LinkV RX8 76 yX5_nextSquare := ⟨Or.inl gl_RX8_76, gi_X5_nextSquare, gs_X5_nextSquare⟩
set_option maxRecDepth 50000 in
theorem gl_RX8_73 : Cond.methodLink RX8 73 yX8_hop ∈ GW := GW_in 791 rfl rfl
theorem lk_RX8_73 : LinkV RX8 73 yX8_hop := ⟨Or.inl gl_RX8_73, gi_X8_hop, gs_X8_hop⟩
set_option maxRecDepth 50000 in
theorem gl_RL_76 : Cond.methodLink RL 76 yX11_move ∈ GW := GW_in 795 rfl rfl
theorem lk_RL_76 : LinkV RL 76 yX11_move := ⟨Or.inl gl_RL_76, gi_X11_move, gs_X11_move⟩
set_option maxRecDepth 50000 in
theorem gl_RX11_193 : Cond.methodLink RX11 193 yX9_moveAt ∈ GW := GW_in 799 rfl rfl
theorem lk_RX11_193 : LinkV RX11 193 yX9_moveAt := ⟨Or.inl gl_RX11_193, gi_X9_moveAt, gs_X9_moveAt⟩
set_option maxRecDepth 50000 in
theorem gl_RL_80 : Cond.methodLink RL 80 yX11_go ∈ GW := GW_in 803 rfl rfl
theorem lk_RL_80 : LinkV RL 80 yX11_go := ⟨Or.inl gl_RL_80, gi_X11_go, gs_X11_go⟩
set_option maxRecDepth 50000 in
theorem gl_RX11_198 : Cond.methodLink RX11 198 yX11_playNow ∈ GW := GW_in 807 rfl rfl
theorem lk_RX11_198 : LinkV RX11 198 yX11_playNow := ⟨Or.inl gl_RX11_198, gi_X11_playNow, gs_X11_playNow⟩
set_option maxRecDepth 50000 in
theorem gl_RX11_226 : Cond.methodLink RX11 226 yX11_isOver ∈ GW := GW_in 811 rfl rfl
theorem lk_RX11_226 : LinkV RX11 226 yX11_isOver := ⟨Or.inl gl_RX11_226, gi_X11_isOver, gs_X11_isOver⟩
set_option maxRecDepth 50000 in
theorem gl_RX11_304 : Cond.methodLink RX11 304 yX8_play ∈ GW := GW_in 815 rfl rfl
theorem lk_RX11_304 : LinkV RX11 304 yX8_play := ⟨Or.inl gl_RX11_304, gi_X8_play, gs_X8_play⟩
set_option maxRecDepth 50000 in
theorem gl_RX8_80 : Cond.methodLink RX8 80 yX8_pieceOn ∈ GW := GW_in 819 rfl rfl
theorem lk_RX8_80 : LinkV RX8 80 yX8_pieceOn := ⟨Or.inl gl_RX8_80, gi_X8_pieceOn, gs_X8_pieceOn⟩
set_option maxRecDepth 50000 in
theorem gl_RX8_84 : Cond.methodLink RX8 84 yX8_settle ∈ GW := GW_in 820 rfl rfl
theorem lk_RX8_84 : LinkV RX8 84 yX8_settle := ⟨Or.inl gl_RX8_84, gi_X8_settle, gs_X8_settle⟩
set_option maxRecDepth 50000 in
theorem gl_RX8_88 : Cond.methodLink RX8 88 yX8_burn ∈ GW := GW_in 821 rfl rfl
theorem lk_RX8_88 : LinkV RX8 88 yX8_burn := ⟨Or.inl gl_RX8_88, gi_X8_burn, gs_X8_burn⟩
set_option maxRecDepth 50000 in
theorem gl_RX8_92 : Cond.methodLink RX8 92 yX8_fill ∈ GW := GW_in 825 rfl rfl
theorem lk_RX8_92 : LinkV RX8 92 yX8_fill := ⟨Or.inl gl_RX8_92, gi_X8_fill, gs_X8_fill⟩
set_option maxRecDepth 50000 in
theorem gl_RL_84 : Cond.methodLink RL 84 yX11_chance ∈ GW := GW_in 826 rfl rfl
theorem lk_RL_84 : LinkV RL 84 yX11_chance := ⟨Or.inl gl_RL_84, gi_X11_chance, gs_X11_chance⟩
set_option maxRecDepth 50000 in
theorem gl_RX11_202 : Cond.methodLink RX11 202 yX11_isAhead ∈ GW := GW_in 830 rfl rfl
theorem lk_RX11_202 : LinkS RX11 202 yX11_isAhead := ⟨Or.inl gl_RX11_202, gt_X11_isAhead⟩
set_option maxRecDepth 50000 in
theorem gl_RX11_205 : Cond.methodLink RX11 205 yX11_isPart ∈ GW := GW_in 833 rfl rfl
theorem lk_RX11_205 : LinkS RX11 205 yX11_isPart := ⟨Or.inl gl_RX11_205, gt_X11_isPart⟩
set_option maxRecDepth 50000 in
theorem gl_RX11_211 : Cond.methodLink RX11 211 yX8_copyFrom ∈ GW := GW_in 837 rfl rfl
theorem lk_RX11_211 : LinkV RX11 211 yX8_copyFrom := ⟨Or.inl gl_RX11_211, gi_X8_copyFrom, gs_X8_copyFrom⟩
set_option maxRecDepth 50000 in
theorem gl_RX11_214 : Cond.methodLink RX11 214 yX11_likely ∈ GW := GW_in 838 rfl rfl
theorem lk_RX11_214 : LinkS RX11 214 yX11_likely := ⟨Or.inl gl_RX11_214, gt_X11_likely⟩
set_option maxRecDepth 50000 in
theorem gl_RX11_218 : Cond.methodLink RX11 218 yX11_power ∈ GW := GW_in 841 rfl rfl
theorem lk_RX11_218 : LinkS RX11 218 yX11_power := ⟨Or.inl gl_RX11_218, gt_X11_power⟩
set_option maxRecDepth 50000 in
theorem gl_RX11_360 : Cond.methodLink RX11 360 yX11_likelyBy ∈ GW := GW_in 844 rfl rfl
theorem lk_RX11_360 : LinkS RX11 360 yX11_likelyBy := ⟨Or.inl gl_RX11_360, gt_X11_likelyBy⟩
set_option maxRecDepth 50000 in
theorem gl_RX11_374 : Cond.methodLink RX11 374 yX9_chooseKing ∈ GW := GW_in 847 rfl rfl
theorem lk_RX11_374 : LinkV RX11 374 yX9_chooseKing := ⟨Or.inl gl_RX11_374, gi_X9_chooseKing, gs_X9_chooseKing⟩
set_option maxRecDepth 50000 in
theorem gl_RX9_30 : Cond.methodLink RX9 30 yX8_kingOf ∈ GW := GW_in 851 rfl rfl
theorem lk_RX9_30 : LinkV RX9 30 yX8_kingOf := ⟨Or.inl gl_RX9_30, gi_X8_kingOf, gs_X8_kingOf⟩
set_option maxRecDepth 50000 in
theorem gl_RX9_34 : Cond.methodLink RX9 34 yX8_placeOf ∈ GW := GW_in 855 rfl rfl
theorem lk_RX9_34 : LinkV RX9 34 yX8_placeOf := ⟨Or.inl gl_RX9_34, gi_X8_placeOf, gs_X8_placeOf⟩
set_option maxRecDepth 50000 in
theorem gl_RX11_378 : Cond.methodLink RX11 378 yX9_tread ∈ GW := GW_in 856 rfl rfl
theorem lk_RX11_378 : LinkV RX11 378 yX9_tread := ⟨Or.inl gl_RX11_378, gi_X9_tread, gs_X9_tread⟩
set_option maxRecDepth 50000 in
theorem gl_RX9_41 : Cond.methodLink RX9 41 yX8_copyFrom ∈ GW := GW_in 860 rfl rfl
theorem lk_RX9_41 : LinkV RX9 41 yX8_copyFrom := ⟨Or.inl gl_RX9_41, gi_X8_copyFrom, gs_X8_copyFrom⟩
set_option maxRecDepth 50000 in
theorem gl_RX9_45 : Cond.methodLink RX9 45 yX8_play ∈ GW := GW_in 861 rfl rfl
theorem lk_RX9_45 : LinkV RX9 45 yX8_play := ⟨Or.inl gl_RX9_45, gi_X8_play, gs_X8_play⟩
set_option maxRecDepth 50000 in
theorem gl_RX11_222 : Cond.methodLink RX11 222 yX11_part ∈ GW := GW_in 862 rfl rfl
theorem lk_RX11_222 : LinkS RX11 222 yX11_part := ⟨Or.inl gl_RX11_222, gt_X11_part⟩
set_option maxRecDepth 50000 in
theorem gl_RX11_367 : Cond.methodLink RX11 367 yX11_greatestShared ∈ GW := GW_in 865 rfl rfl
theorem lk_RX11_367 : LinkS RX11 367 yX11_greatestShared := ⟨Or.inl gl_RX11_367, gt_X11_greatestShared⟩
set_option maxRecDepth 50000 in
theorem gl_RL_89 : Cond.methodLink RL 89 yX11_byWind ∈ GW := GW_in 868 rfl rfl
theorem lk_RL_89 : LinkV RL 89 yX11_byWind := ⟨Or.inl gl_RL_89, gi_X11_byWind, gs_X11_byWind⟩
set_option maxRecDepth 50000 in
theorem gl_RX11_231 : Cond.methodLink RX11 231 yX11_likelyNow ∈ GW := GW_in 873 rfl rfl
theorem lk_RX11_231 : LinkV RX11 231 yX11_likelyNow := ⟨Or.inl gl_RX11_231, gi_X11_likelyNow, gs_X11_likelyNow⟩
set_option maxRecDepth 50000 in
theorem gl_RL_93 : Cond.methodLink RL 93 yX11_best ∈ GW := GW_in 877 rfl rfl
theorem lk_RL_93 : LinkV RL 93 yX11_best := ⟨Or.inl gl_RL_93, gi_X11_best, gs_X11_best⟩
set_option maxRecDepth 50000 in
theorem gl_RL_97 : Cond.methodLink RL 97 yX11_hope ∈ GW := GW_in 881 rfl rfl
theorem lk_RL_97 : LinkV RL 97 yX11_hope := ⟨Or.inl gl_RL_97, gi_X11_hope, gs_X11_hope⟩
set_option maxRecDepth 50000 in
theorem gl_RL_101 : Cond.methodLink RL 101 yX11_since ∈ GW := GW_in 885 rfl rfl
theorem lk_RL_101 : LinkV RL 101 yX11_since := ⟨Or.inl gl_RL_101, gi_X11_since, gs_X11_since⟩
set_option maxRecDepth 50000 in
theorem gl_RX11_237 : Cond.methodLink RX11 237 yX11_isImage ∈ GW := GW_in 889 rfl rfl
theorem lk_RX11_237 : LinkS RX11 237 yX11_isImage := ⟨Or.inl gl_RX11_237, gt_X11_isImage⟩
set_option maxRecDepth 50000 in
theorem gl_RX11_240 : Cond.methodLink RX11 240 yX11_isAsked ∈ GW := GW_in 892 rfl rfl
theorem lk_RX11_240 : LinkS RX11 240 yX11_isAsked := ⟨Or.inl gl_RX11_240, gt_X11_isAsked⟩
set_option maxRecDepth 50000 in
theorem gl_RX11_243 : Cond.methodLink RX11 243 yX11_imageAt ∈ GW := GW_in 895 rfl rfl
theorem lk_RX11_243 : LinkV RX11 243 yX11_imageAt := ⟨Or.inl gl_RX11_243, gi_X11_imageAt, gs_X11_imageAt⟩
set_option maxRecDepth 50000 in
theorem gl_RX11_251 : Cond.methodLink RX11 251 yX4_aim ∈ GW := GW_in 899 rfl rfl
theorem lk_RX11_251 : LinkV RX11 251 yX4_aim := ⟨Or.inl gl_RX11_251, gi_X4_aim, gs_X4_aim⟩
set_option maxRecDepth 50000 in
theorem gl_RX11_257 : Cond.methodLink RX11 257 yX6_find ∈ GW := GW_in 903 rfl rfl
theorem lk_RX11_257 : LinkV RX11 257 yX6_find := ⟨Or.inl gl_RX11_257, gi_X6_find, gs_X6_find⟩
set_option maxRecDepth 50000 in
theorem gl_RX6_47 : Cond.methodLink RX6 47 yX8_copyFrom ∈ GW := GW_in 907 rfl rfl
theorem lk_RX6_47 : LinkV RX6 47 yX8_copyFrom := ⟨Or.inl gl_RX6_47, gi_X8_copyFrom, gs_X8_copyFrom⟩
set_option maxRecDepth 50000 in
theorem gl_RX0_40 : Cond.methodLink RX0 40 yX8_heldBy ∈ GW := GW_in 917 rfl rfl
theorem lk_RX0_40 : LinkV RX0 40 yX8_heldBy := ⟨Or.inl gl_RX0_40, gi_X8_heldBy, gs_X8_heldBy⟩
set_option maxRecDepth 50000 in
theorem gl_RX0_45 : Cond.methodLink RX0 45 yJ6_bitCount_0f7a4 ∈ GW := GW_in 918 rfl rfl
theorem lk_RX0_45 : LinkS RX0 45 yJ6_bitCount_0f7a4 := ⟨Or.inl gl_RX0_45, gt_J6_bitCount_0f7a4⟩
set_option maxRecDepth 50000 in
theorem gl_RX4_30 : Cond.methodLink RX4 30 yX8_placeOf ∈ GW := GW_in 927 rfl rfl
theorem lk_RX4_30 : LinkV RX4 30 yX8_placeOf := ⟨Or.inl gl_RX4_30, gi_X8_placeOf, gs_X8_placeOf⟩
set_option maxRecDepth 50000 in
theorem gl_RX4_34 : Cond.methodLink RX4 34 yX8_oilOf ∈ GW := GW_in 928 rfl rfl
theorem lk_RX4_34 : LinkV RX4 34 yX8_oilOf := ⟨Or.inl gl_RX4_34, gi_X8_oilOf, gs_X8_oilOf⟩
set_option maxRecDepth 50000 in
theorem gl_RX11_387 : Cond.methodLink RX11 387 yX6_note ∈ GW := GW_in 929 rfl rfl
theorem lk_RX11_387 : LinkV RX11 387 yX6_note := ⟨Or.inl gl_RX11_387, gi_X6_note, gs_X6_note⟩
set_option maxRecDepth 50000 in
theorem gl_RX6_60 : Cond.methodLink RX6 60 yX8_placeOf ∈ GW := GW_in 933 rfl rfl
theorem lk_RX6_60 : LinkV RX6 60 yX8_placeOf := ⟨Or.inl gl_RX6_60, gi_X8_placeOf, gs_X8_placeOf⟩
set_option maxRecDepth 50000 in
theorem gl_RX6_65 : Cond.methodLink RX6 65 yX5_bitOf ∈ GW := GW_in 935 rfl rfl
theorem lk_RX6_65 : LinkS RX6 65 yX5_bitOf := ⟨Or.inl gl_RX6_65, gt_X5_bitOf⟩
set_option maxRecDepth 50000 in
theorem gl_RX11_393 : Cond.methodLink RX11 393 yX11_countRows ∈ GW := GW_in 936 rfl rfl
theorem lk_RX11_393 : LinkS RX11 393 yX11_countRows := ⟨Or.inl gl_RX11_393, gt_X11_countRows⟩
set_option maxRecDepth 50000 in
theorem gl_RX11_261 : Cond.methodLink RX11 261 yX6_firstTurn ∈ GW := GW_in 937 rfl rfl
theorem lk_RX11_261 : LinkV RX11 261 yX6_firstTurn := ⟨Or.inl gl_RX11_261, gi_X6_firstTurn, gs_X6_firstTurn⟩
set_option maxRecDepth 50000 in
theorem gl_RL_106 : Cond.methodLink RL 106 yX11_see ∈ GW := GW_in 941 rfl rfl
theorem lk_RL_106 : LinkV RL 106 yX11_see := ⟨Or.inl gl_RL_106, gi_X11_see, gs_X11_see⟩
set_option maxRecDepth 50000 in
theorem gl_RX11_264 : Cond.methodLink RX11 264 yX3_addSeen ∈ GW := GW_in 945 rfl rfl
theorem lk_RX11_264 : LinkV RX11 264 yX3_addSeen := ⟨Or.inl gl_RX11_264, gi_X3_addSeen, gs_X3_addSeen⟩
set_option maxRecDepth 50000 in
theorem gl_RL_110 : Cond.methodLink RL 110 yX11_forget ∈ GW := GW_in 949 rfl rfl
theorem lk_RL_110 : LinkV RL 110 yX11_forget := ⟨Or.inl gl_RL_110, gi_X11_forget, gs_X11_forget⟩
set_option maxRecDepth 50000 in
theorem gl_RL_114 : Cond.methodLink RL 114 yX11_fits ∈ GW := GW_in 953 rfl rfl
theorem lk_RL_114 : LinkV RL 114 yX11_fits := ⟨Or.inl gl_RL_114, gi_X11_fits, gs_X11_fits⟩
set_option maxRecDepth 50000 in
theorem gl_RX11_271 : Cond.methodLink RX11 271 yX11_findFits ∈ GW := GW_in 957 rfl rfl
theorem lk_RX11_271 : LinkV RX11 271 yX11_findFits := ⟨Or.inl gl_RX11_271, gi_X11_findFits, gs_X11_findFits⟩
set_option maxRecDepth 50000 in
theorem gl_RX11_353 : Cond.methodLink RX11 353 yX0_aim ∈ GW := GW_in 961 rfl rfl
theorem lk_RX11_353 : LinkV RX11 353 yX0_aim := ⟨Or.inl gl_RX11_353, gi_X0_aim, gs_X0_aim⟩
set_option maxRecDepth 50000 in
theorem gl_RX0_27 : Cond.methodLink RX0 27 yX5_bitOf ∈ GW := GW_in 965 rfl rfl
theorem lk_RX0_27 : LinkS RX0 27 yX5_bitOf := ⟨Or.inl gl_RX0_27, gt_X5_bitOf⟩
set_option maxRecDepth 50000 in
theorem gl_RL_118 : Cond.methodLink RL 118 yX11_where ∈ GW := GW_in 967 rfl rfl
theorem lk_RL_118 : LinkV RL 118 yX11_where := ⟨Or.inl gl_RL_118, gi_X11_where, gs_X11_where⟩
set_option maxRecDepth 50000 in
theorem gl_RL_122 : Cond.methodLink RL 122 yX11_tell ∈ GW := GW_in 971 rfl rfl
theorem lk_RL_122 : LinkV RL 122 yX11_tell := ⟨Or.inl gl_RL_122, gi_X11_tell, gs_X11_tell⟩
set_option maxRecDepth 50000 in
theorem gl_RX11_277 : Cond.methodLink RX11 277 yX3_addTold ∈ GW := GW_in 975 rfl rfl
theorem lk_RX11_277 : LinkV RX11 277 yX3_addTold := ⟨Or.inl gl_RX11_277, gi_X3_addTold, gs_X3_addTold⟩
set_option maxRecDepth 50000 in
theorem gl_RL_126 : Cond.methodLink RL 126 yX11_drop ∈ GW := GW_in 979 rfl rfl
theorem lk_RL_126 : LinkV RL 126 yX11_drop := ⟨Or.inl gl_RL_126, gi_X11_drop, gs_X11_drop⟩
set_option maxRecDepth 50000 in
theorem gl_RL_130 : Cond.methodLink RL 130 yX11_blow ∈ GW := GW_in 983 rfl rfl
theorem lk_RL_130 : LinkV RL 130 yX11_blow := ⟨Or.inl gl_RL_130, gi_X11_blow, gs_X11_blow⟩
set_option maxRecDepth 50000 in
theorem gl_RX11_283 : Cond.methodLink RX11 283 yX1_find ∈ GW := GW_in 987 rfl rfl
theorem lk_RX11_283 : LinkV RX11 283 yX1_find := ⟨Or.inl gl_RX11_283, gi_X1_find, gs_X1_find⟩
set_option maxRecDepth 50000 in
theorem gl_RX1_31 : Cond.methodLink RX1 31 yX1_spell ∈ GW := GW_in 992 rfl rfl
theorem lk_RX1_31 : LinkV RX1 31 yX1_spell := ⟨Or.inl gl_RX1_31, gi_X1_spell, gs_X1_spell⟩
set_option maxRecDepth 50000 in
theorem gl_RX1_65 : Cond.methodLink RX1 65 yJ9_min_7cf53 ∈ GW := GW_in 996 rfl rfl
theorem lk_RX1_65 : LinkS RX1 65 yJ9_min_7cf53 := ⟨Or.inl gl_RX1_65, gt_J9_min_7cf53⟩
set_option maxRecDepth 50000 in
theorem gl_RX1_71 : Cond.methodLink RX1 71 yX3_toldAt ∈ GW := GW_in 999 rfl rfl
theorem lk_RX1_71 : LinkV RX1 71 yX3_toldAt := ⟨Or.inl gl_RX1_71, gi_X3_toldAt, gs_X3_toldAt⟩
set_option maxRecDepth 50000 in
theorem gl_RX1_42 : Cond.methodLink RX1 42 yX8_copyFrom ∈ GW := GW_in 1003 rfl rfl
theorem lk_RX1_42 : LinkV RX1 42 yX8_copyFrom := ⟨Or.inl gl_RX1_42, gi_X8_copyFrom, gs_X8_copyFrom⟩
set_option maxRecDepth 50000 in
theorem gl_RX11_397 : Cond.methodLink RX11 397 yX11_canTake ∈ GW := GW_in 1007 rfl rfl
theorem lk_RX11_397 : LinkS RX11 397 yX11_canTake := ⟨Or.inl gl_RX11_397, gt_X11_canTake⟩
set_option maxRecDepth 50000 in
theorem gl_RX11_289 : Cond.methodLink RX11 289 yX1_windAt ∈ GW := GW_in 1009 rfl rfl
theorem lk_RX11_289 : LinkV RX11 289 yX1_windAt := ⟨Or.inl gl_RX11_289, gi_X1_windAt, gs_X1_windAt⟩
set_option maxRecDepth 50000 in
theorem gl_RL_134 : Cond.methodLink RL 134 yX11_gale ∈ GW := GW_in 1013 rfl rfl
theorem lk_RL_134 : LinkV RL 134 yX11_gale := ⟨Or.inl gl_RL_134, gi_X11_gale, gs_X11_gale⟩
set_option maxRecDepth 50000 in
theorem gl_RX11_293 : Cond.methodLink RX11 293 yX5_windBy ∈ GW := GW_in 1018 rfl rfl
theorem lk_RX11_293 : LinkV RX11 293 yX5_windBy := ⟨Or.inl gl_RX11_293, gi_X5_windBy, gs_X5_windBy⟩
set_option maxRecDepth 50000 in
theorem gl_RX5_40 : Cond.methodLink RX5 40 yX5_allOdds ∈ GW := GW_in 1022 rfl rfl
theorem lk_RX5_40 : LinkV RX5 40 yX5_allOdds := ⟨Or.inl gl_RX5_40, gi_X5_allOdds, gs_X5_allOdds⟩
set_option maxRecDepth 50000 in
theorem gl_RL_138 : Cond.methodLink RL 138 yX11_keep ∈ GW := GW_in 1023 rfl rfl
theorem lk_RL_138 : LinkV RL 138 yX11_keep := ⟨Or.inl gl_RL_138, gi_X11_keep, gs_X11_keep⟩
set_option maxRecDepth 50000 in
theorem gl_RL_142 : Cond.methodLink RL 142 yX11_back ∈ GW := GW_in 1027 rfl rfl
theorem lk_RL_142 : LinkV RL 142 yX11_back := ⟨Or.inl gl_RL_142, gi_X11_back, gs_X11_back⟩
set_option maxRecDepth 50000 in
theorem gl_RL_146 : Cond.methodLink RL 146 yX11_sheet ∈ GW := GW_in 1031 rfl rfl
theorem lk_RL_146 : LinkV RL 146 yX11_sheet := ⟨Or.inl gl_RL_146, gi_X11_sheet, gs_X11_sheet⟩
set_option maxRecDepth 50000 in
theorem gl_RX11_308 : Cond.methodLink RX11 308 yX11_isSheet ∈ GW := GW_in 1035 rfl rfl
theorem lk_RX11_308 : LinkS RX11 308 yX11_isSheet := ⟨Or.inl gl_RX11_308, gt_X11_isSheet⟩
set_option maxRecDepth 50000 in
theorem gl_RX11_311 : Cond.methodLink RX11 311 yX11_isLane ∈ GW := GW_in 1038 rfl rfl
theorem lk_RX11_311 : LinkS RX11 311 yX11_isLane := ⟨Or.inl gl_RX11_311, gt_X11_isLane⟩
set_option maxRecDepth 50000 in
theorem gl_RX11_314 : Cond.methodLink RX11 314 yX7_renew ∈ GW := GW_in 1041 rfl rfl
theorem lk_RX11_314 : LinkV RX11 314 yX7_renew := ⟨Or.inl gl_RX11_314, gi_X7_renew, gs_X7_renew⟩
set_option maxRecDepth 50000 in
theorem gl_RL_150 : Cond.methodLink RL 150 yX11_lay ∈ GW := GW_in 1046 rfl rfl
theorem lk_RL_150 : LinkV RL 150 yX11_lay := ⟨Or.inl gl_RL_150, gi_X11_lay, gs_X11_lay⟩
set_option maxRecDepth 50000 in
theorem gl_RX11_318 : Cond.methodLink RX11 318 yX7_faultAt ∈ GW := GW_in 1050 rfl rfl
theorem lk_RX11_318 : LinkV RX11 318 yX7_faultAt := ⟨Or.inl gl_RX11_318, gi_X7_faultAt, gs_X7_faultAt⟩
set_option maxRecDepth 50000 in
theorem gl_RX7_27 : Cond.methodLink RX7 27 yX7_sizeOf ∈ GW := GW_in 1054 rfl rfl
theorem lk_RX7_27 : LinkV RX7 27 yX7_sizeOf := ⟨Or.inl gl_RX7_27, gi_X7_sizeOf, gs_X7_sizeOf⟩
set_option maxRecDepth 50000 in
theorem gl_RX11_321 : Cond.methodLink RX11 321 yX7_set ∈ GW := GW_in 1058 rfl rfl
theorem lk_RX11_321 : LinkV RX11 321 yX7_set := ⟨Or.inl gl_RX11_321, gi_X7_set, gs_X7_set⟩
set_option maxRecDepth 50000 in
theorem gl_RX7_37 : Cond.methodLink RX7 37 yX7_faultAt ∈ GW := GW_in 1062 rfl rfl
theorem lk_RX7_37 : LinkV RX7 37 yX7_faultAt := ⟨Or.inl gl_RX7_37, gi_X7_faultAt, gs_X7_faultAt⟩
set_option maxRecDepth 50000 in
theorem gl_RL_154 : Cond.methodLink RL 154 yX11_read ∈ GW := GW_in 1063 rfl rfl
theorem lk_RL_154 : LinkV RL 154 yX11_read := ⟨Or.inl gl_RL_154, gi_X11_read, gs_X11_read⟩
set_option maxRecDepth 50000 in
theorem gl_RX11_324 : Cond.methodLink RX11 324 yX7_faultAs ∈ GW := GW_in 1067 rfl rfl
theorem lk_RX11_324 : LinkV RX11 324 yX7_faultAs := ⟨Or.inl gl_RX11_324, gi_X7_faultAs, gs_X7_faultAs⟩
set_option maxRecDepth 50000 in
theorem gl_RX11_327 : Cond.methodLink RX11 327 yX7_wholeTurns ∈ GW := GW_in 1071 rfl rfl
theorem lk_RX11_327 : LinkV RX11 327 yX7_wholeTurns := ⟨Or.inl gl_RX11_327, gi_X7_wholeTurns, gs_X7_wholeTurns⟩
set_option maxRecDepth 50000 in
theorem gl_RX7_31 : Cond.methodLink RX7 31 yJ9_min_7cf53 ∈ GW := GW_in 1075 rfl rfl
theorem lk_RX7_31 : LinkS RX7 31 yJ9_min_7cf53 := ⟨Or.inl gl_RX7_31, gt_J9_min_7cf53⟩
set_option maxRecDepth 50000 in
theorem gl_RX11_331 : Cond.methodLink RX11 331 yX11_playSheet ∈ GW := GW_in 1076 rfl rfl
theorem lk_RX11_331 : LinkV RX11 331 yX11_playSheet := ⟨Or.inl gl_RX11_331, gi_X11_playSheet, gs_X11_playSheet⟩
set_option maxRecDepth 50000 in
theorem gl_RX11_346 : Cond.methodLink RX11 346 yX7_cellAt ∈ GW := GW_in 1080 rfl rfl
theorem lk_RX11_346 : LinkV RX11 346 yX7_cellAt := ⟨Or.inl gl_RX11_346, gi_X7_cellAt, gs_X7_cellAt⟩
set_option maxRecDepth 50000 in
theorem gl_RL_159 : Cond.methodLink RL 159 yX11_torn ∈ GW := GW_in 1084 rfl rfl
theorem lk_RL_159 : LinkV RL 159 yX11_torn := ⟨Or.inl gl_RL_159, gi_X11_torn, gs_X11_torn⟩
set_option maxRecDepth 50000 in
theorem gl_RL_163 : Cond.methodLink RL 163 yX11_count ∈ GW := GW_in 1088 rfl rfl
theorem lk_RL_163 : LinkV RL 163 yX11_count := ⟨Or.inl gl_RL_163, gi_X11_count, gs_X11_count⟩
set_option maxRecDepth 50000 in
theorem gl_RX11_337 : Cond.methodLink RX11 337 yX8_standing ∈ GW := GW_in 1092 rfl rfl
theorem lk_RX11_337 : LinkV RX11 337 yX8_standing := ⟨Or.inl gl_RX11_337, gi_X8_standing, gs_X8_standing⟩
set_option maxRecDepth 50000 in
theorem gl_RX11_340 : Cond.methodLink RX11 340 yX7_sizeOf ∈ GW := GW_in 1096 rfl rfl
theorem lk_RX11_340 : LinkV RX11 340 yX7_sizeOf := ⟨Or.inl gl_RX11_340, gi_X7_sizeOf, gs_X7_sizeOf⟩
set_option maxRecDepth 50000 in
theorem gl_RX11_343 : Cond.methodLink RX11 343 yX8_allOil ∈ GW := GW_in 1097 rfl rfl
theorem lk_RX11_343 : LinkV RX11 343 yX8_allOil := ⟨Or.inl gl_RX11_343, gi_X8_allOil, gs_X8_allOil⟩
set_option maxRecDepth 50000 in
theorem gl_RL_12 : Cond.methodLink RL 12 yX12_init ∈ GW := GW_in 1103 rfl rfl
theorem lk_RL_12 : LinkI RL 12 yX12_init := ⟨Or.inl gl_RL_12, gi_X12_init, rfl⟩
set_option maxRecDepth 50000 in
theorem gl_RX12_74 : Cond.methodLink RX12 74 yX12_firstDraft ∈ GW := GW_in 1107 rfl rfl
theorem lk_RX12_74 : LinkV RX12 74 yX12_firstDraft := ⟨Or.inl gl_RX12_74, gi_X12_firstDraft, gs_X12_firstDraft⟩
set_option maxRecDepth 50000 in
theorem gl_RX12_77 : Cond.methodLink RX12 77 yX12_twoKings ∈ GW := GW_in 1111 rfl rfl
theorem lk_RX12_77 : LinkV RX12 77 yX12_twoKings := ⟨Or.inl gl_RX12_77, gi_X12_twoKings, gs_X12_twoKings⟩
set_option maxRecDepth 50000 in
theorem gl_RX12_80 : Cond.methodLink RX12 80 yX12_keepDraft ∈ GW := GW_in 1115 rfl rfl
theorem lk_RX12_80 : LinkV RX12 80 yX12_keepDraft := ⟨Or.inl gl_RX12_80, gi_X12_keepDraft, gs_X12_keepDraft⟩
set_option maxRecDepth 50000 in
theorem gl_RL_19 : Cond.methodLink RL 19 yX12_feed ∈ GW := GW_in 1249 rfl rfl
theorem lk_RL_19 : LinkV RL 19 yX12_feed := ⟨Or.inl gl_RL_19, gi_X12_feed, gs_X12_feed⟩
set_option maxRecDepth 50000 in
theorem gl_RL_24 : Cond.methodLink RL 24 yX12_end ∈ GW := GW_in 1254 rfl rfl
theorem lk_RL_24 : LinkV RL 24 yX12_end := ⟨Or.inl gl_RL_24, gi_X12_end, gs_X12_end⟩
set_option maxRecDepth 50000 in
theorem gl_RX12_113 : Cond.methodLink RX12 113 yX12_in ∈ GW := GW_in 1258 rfl rfl
theorem lk_RX12_113 : LinkS RX12 113 yX12_in := ⟨Or.inl gl_RX12_113, gt_X12_in⟩
set_option maxRecDepth 50000 in
theorem gl_RL_29 : Cond.methodLink RL 29 yX12_text ∈ GW := GW_in 1261 rfl rfl
theorem lk_RL_29 : LinkV RL 29 yX12_text := ⟨Or.inl gl_RL_29, gi_X12_text, gs_X12_text⟩
set_option maxRecDepth 50000 in
theorem gl_RX12_163 : Cond.methodLink RX12 163 yX12_next ∈ GW := GW_in 1265 rfl rfl
theorem lk_RX12_163 : LinkV RX12 163 yX12_next := ⟨Or.inl gl_RX12_163, gi_X12_next, gs_X12_next⟩
set_option maxRecDepth 50000 in
theorem gl_RX12_129 : Cond.methodLink RX12 129 yX12_look ∈ GW := GW_in 1269 rfl rfl
theorem lk_RX12_129 : LinkV RX12 129 yX12_look := ⟨Or.inl gl_RX12_129, gi_X12_look, gs_X12_look⟩
set_option maxRecDepth 50000 in
theorem gl_RX12_155 : Cond.methodLink RX12 155 yX12_needs ∈ GW := GW_in 1277 rfl rfl
theorem lk_RX12_155 : LinkV RX12 155 yX12_needs := ⟨Or.inl gl_RX12_155, gi_X12_needs, gs_X12_needs⟩
set_option maxRecDepth 50000 in
theorem gl_RX12_196 : Cond.methodLink RX12 196 yX12_readLine ∈ GW := GW_in 1281 rfl rfl
theorem lk_RX12_196 : LinkV RX12 196 yX12_readLine := ⟨Or.inl gl_RX12_196, gi_X12_readLine, gs_X12_readLine⟩
set_option maxRecDepth 50000 in
theorem gl_RX12_182 : Cond.methodLink RX12 182 yX12_lineNow ∈ GW := GW_in 1285 rfl rfl
theorem lk_RX12_182 : LinkV RX12 182 yX12_lineNow := ⟨Or.inl gl_RX12_182, gi_X12_lineNow, gs_X12_lineNow⟩
set_option maxRecDepth 50000 in
theorem gl_RX12_133 : Cond.methodLink RX12 133 yX12_is ∈ GW := GW_in 1289 rfl rfl
theorem lk_RX12_133 : LinkV RX12 133 yX12_is := ⟨Or.inl gl_RX12_133, gi_X12_is, gs_X12_is⟩
set_option maxRecDepth 50000 in
theorem gl_RX12_137 : Cond.methodLink RX12 137 yX12_ends ∈ GW := GW_in 1293 rfl rfl
theorem lk_RX12_137 : LinkV RX12 137 yX12_ends := ⟨Or.inl gl_RX12_137, gi_X12_ends, gs_X12_ends⟩
set_option maxRecDepth 50000 in
theorem gl_RX12_185 : Cond.methodLink RX12 185 yX12_readLineOf ∈ GW := GW_in 1297 rfl rfl
theorem lk_RX12_185 : LinkV RX12 185 yX12_readLineOf := ⟨Or.inl gl_RX12_185, gi_X12_readLineOf, gs_X12_readLineOf⟩
set_option maxRecDepth 50000 in
theorem gl_RX12_170 : Cond.methodLink RX12 170 yX12_readNumber ∈ GW := GW_in 1301 rfl rfl
theorem lk_RX12_170 : LinkV RX12 170 yX12_readNumber := ⟨Or.inl gl_RX12_170, gi_X12_readNumber, gs_X12_readNumber⟩
set_option maxRecDepth 50000 in
theorem gl_RX12_159 : Cond.methodLink RX12 159 yX12_looked ∈ GW := GW_in 1305 rfl rfl
theorem lk_RX12_159 : LinkV RX12 159 yX12_looked := ⟨Or.inl gl_RX12_159, gi_X12_looked, gs_X12_looked⟩
set_option maxRecDepth 50000 in
theorem gl_RX12_176 : Cond.methodLink RX12 176 yX12_readOdds ∈ GW := GW_in 1309 rfl rfl
theorem lk_RX12_176 : LinkV RX12 176 yX12_readOdds := ⟨Or.inl gl_RX12_176, gi_X12_readOdds, gs_X12_readOdds⟩
set_option maxRecDepth 50000 in
theorem gl_RX12_173 : Cond.methodLink RX12 173 yX12_readFree ∈ GW := GW_in 1313 rfl rfl
theorem lk_RX12_173 : LinkV RX12 173 yX12_readFree := ⟨Or.inl gl_RX12_173, gi_X12_readFree, gs_X12_readFree⟩
set_option maxRecDepth 50000 in
theorem gl_RX12_179 : Cond.methodLink RX12 179 yX12_readPiece ∈ GW := GW_in 1317 rfl rfl
theorem lk_RX12_179 : LinkV RX12 179 yX12_readPiece := ⟨Or.inl gl_RX12_179, gi_X12_readPiece, gs_X12_readPiece⟩
set_option maxRecDepth 50000 in
theorem gl_RX12_166 : Cond.methodLink RX12 166 yX12_kindNow ∈ GW := GW_in 1321 rfl rfl
theorem lk_RX12_166 : LinkV RX12 166 yX12_kindNow := ⟨Or.inl gl_RX12_166, gi_X12_kindNow, gs_X12_kindNow⟩
set_option maxRecDepth 50000 in
theorem gl_RX12_199 : Cond.methodLink RX12 199 yX12_looksAtAll ∈ GW := GW_in 1325 rfl rfl
theorem lk_RX12_199 : LinkV RX12 199 yX12_looksAtAll := ⟨Or.inl gl_RX12_199, gi_X12_looksAtAll, gs_X12_looksAtAll⟩
set_option maxRecDepth 50000 in
theorem gl_RX12_193 : Cond.methodLink RX12 193 yX12_kingsOf ∈ GW := GW_in 1329 rfl rfl
theorem lk_RX12_193 : LinkV RX12 193 yX12_kingsOf := ⟨Or.inl gl_RX12_193, gi_X12_kingsOf, gs_X12_kingsOf⟩
set_option maxRecDepth 50000 in
theorem gl_RX12_189 : Cond.methodLink RX12 189 yX12_flag ∈ GW := GW_in 1333 rfl rfl
theorem lk_RX12_189 : LinkS RX12 189 yX12_flag := ⟨Or.inl gl_RX12_189, gt_X12_flag⟩
set_option maxRecDepth 50000 in
theorem gl_RL_33 : Cond.methodLink RL 33 yX12_fault ∈ GW := GW_in 1336 rfl rfl
theorem lk_RL_33 : LinkV RL 33 yX12_fault := ⟨Or.inl gl_RL_33, gi_X12_fault, gs_X12_fault⟩
set_option maxRecDepth 50000 in
theorem gl_RL_37 : Cond.methodLink RL 37 yX12_rule ∈ GW := GW_in 1340 rfl rfl
theorem lk_RL_37 : LinkV RL 37 yX12_rule := ⟨Or.inl gl_RL_37, gi_X12_rule, gs_X12_rule⟩
set_option maxRecDepth 50000 in
theorem gl_RX12_227 : Cond.methodLink RX12 227 yX12_starts ∈ GW := GW_in 1344 rfl rfl
theorem lk_RX12_227 : LinkV RX12 227 yX12_starts := ⟨Or.inl gl_RX12_227, gi_X12_starts, gs_X12_starts⟩
set_option maxRecDepth 50000 in
theorem gl_RX12_221 : Cond.methodLink RX12 221 yX12_lost ∈ GW := GW_in 1348 rfl rfl
theorem lk_RX12_221 : LinkV RX12 221 yX12_lost := ⟨Or.inl gl_RX12_221, gi_X12_lost, gs_X12_lost⟩
set_option maxRecDepth 50000 in
theorem gl_RL_41 : Cond.methodLink RL 41 yX12_square ∈ GW := GW_in 1352 rfl rfl
theorem lk_RL_41 : LinkV RL 41 yX12_square := ⟨Or.inl gl_RL_41, gi_X12_square, gs_X12_square⟩
set_option maxRecDepth 50000 in
theorem gl_RX12_230 : Cond.methodLink RX12 230 yX12_isSquare ∈ GW := GW_in 1356 rfl rfl
theorem lk_RX12_230 : LinkV RX12 230 yX12_isSquare := ⟨Or.inl gl_RX12_230, gi_X12_isSquare, gs_X12_isSquare⟩
set_option maxRecDepth 50000 in
theorem gl_RX12_218 : Cond.methodLink RX12 218 yX12_pieceAt ∈ GW := GW_in 1360 rfl rfl
theorem lk_RX12_218 : LinkV RX12 218 yX12_pieceAt := ⟨Or.inl gl_RX12_218, gi_X12_pieceAt, gs_X12_pieceAt⟩
set_option maxRecDepth 50000 in
theorem gl_RL_46 : Cond.methodLink RL 46 yX12_piece ∈ GW := GW_in 1364 rfl rfl
theorem lk_RL_46 : LinkV RL 46 yX12_piece := ⟨Or.inl gl_RL_46, gi_X12_piece, gs_X12_piece⟩
set_option maxRecDepth 50000 in
theorem gl_RX12_233 : Cond.methodLink RX12 233 yX12_isPiece ∈ GW := GW_in 1368 rfl rfl
theorem lk_RX12_233 : LinkV RX12 233 yX12_isPiece := ⟨Or.inl gl_RX12_233, gi_X12_isPiece, gs_X12_isPiece⟩
set_option maxRecDepth 50000 in
theorem gl_RL_50 : Cond.methodLink RL 50 yX12_odd ∈ GW := GW_in 1372 rfl rfl
theorem lk_RL_50 : LinkV RL 50 yX12_odd := ⟨Or.inl gl_RL_50, gi_X12_odd, gs_X12_odd⟩
set_option maxRecDepth 50000 in
theorem gl_RX12_236 : Cond.methodLink RX12 236 yX12_isWind ∈ GW := GW_in 1376 rfl rfl
theorem lk_RX12_236 : LinkS RX12 236 yX12_isWind := ⟨Or.inl gl_RX12_236, gt_X12_isWind⟩
set_option maxRecDepth 50000 in
theorem gl_RL_54 : Cond.methodLink RL 54 yX12_oil ∈ GW := GW_in 1380 rfl rfl
theorem lk_RL_54 : LinkV RL 54 yX12_oil := ⟨Or.inl gl_RL_54, gi_X12_oil, gs_X12_oil⟩
set_option maxRecDepth 50000 in
theorem gl_RX12_241 : Cond.methodLink RX12 241 yX12_becomes ∈ GW := GW_in 1385 rfl rfl
theorem lk_RX12_241 : LinkV RX12 241 yX12_becomes := ⟨Or.inl gl_RX12_241, gi_X12_becomes, gs_X12_becomes⟩
set_option maxRecDepth 50000 in
theorem gl_RL_58 : Cond.methodLink RL 58 yX12_put ∈ GW := GW_in 1389 rfl rfl
theorem lk_RL_58 : LinkV RL 58 yX12_put := ⟨Or.inl gl_RL_58, gi_X12_put, gs_X12_put⟩
set_option maxRecDepth 50000 in
theorem gl_RX12_211 : Cond.methodLink RX12 211 yX12_isOpen ∈ GW := GW_in 1393 rfl rfl
theorem lk_RX12_211 : LinkV RX12 211 yX12_isOpen := ⟨Or.inl gl_RX12_211, gi_X12_isOpen, gs_X12_isOpen⟩
set_option maxRecDepth 50000 in
theorem gl_RL_63 : Cond.methodLink RL 63 yX12_steeple ∈ GW := GW_in 1397 rfl rfl
theorem lk_RL_63 : LinkV RL 63 yX12_steeple := ⟨Or.inl gl_RL_63, gi_X12_steeple, gs_X12_steeple⟩
set_option maxRecDepth 50000 in
theorem gl_RL_67 : Cond.methodLink RL 67 yX12_weigh ∈ GW := GW_in 1401 rfl rfl
theorem lk_RL_67 : LinkV RL 67 yX12_weigh := ⟨Or.inl gl_RL_67, gi_X12_weigh, gs_X12_weigh⟩
set_option maxRecDepth 50000 in
theorem gl_RX12_244 : Cond.methodLink RX12 244 yX12_allOdds ∈ GW := GW_in 1405 rfl rfl
theorem lk_RX12_244 : LinkV RX12 244 yX12_allOdds := ⟨Or.inl gl_RX12_244, gi_X12_allOdds, gs_X12_allOdds⟩
set_option maxRecDepth 50000 in
theorem gl_RL_71 : Cond.methodLink RL 71 yX12_turn ∈ GW := GW_in 1409 rfl rfl
theorem lk_RL_71 : LinkV RL 71 yX12_turn := ⟨Or.inl gl_RL_71, gi_X12_turn, gs_X12_turn⟩
set_option maxRecDepth 50000 in
theorem gl_RL_75 : Cond.methodLink RL 75 yX12_moves ∈ GW := GW_in 1413 rfl rfl
theorem lk_RL_75 : LinkV RL 75 yX12_moves := ⟨Or.inl gl_RL_75, gi_X12_moves, gs_X12_moves⟩
set_option maxRecDepth 50000 in
theorem gl_RX12_247 : Cond.methodLink RX12 247 yX12_findMoves ∈ GW := GW_in 1417 rfl rfl
theorem lk_RX12_247 : LinkV RX12 247 yX12_findMoves := ⟨Or.inl gl_RX12_247, gi_X12_findMoves, gs_X12_findMoves⟩
set_option maxRecDepth 50000 in
theorem gl_RX12_224 : Cond.methodLink RX12 224 yX12_targets ∈ GW := GW_in 1421 rfl rfl
theorem lk_RX12_224 : LinkV RX12 224 yX12_targets := ⟨Or.inl gl_RX12_224, gi_X12_targets, gs_X12_targets⟩
set_option maxRecDepth 50000 in
theorem gl_RX12_207 : Cond.methodLink RX12 207 yX12_onTo ∈ GW := GW_in 1425 rfl rfl
theorem lk_RX12_207 : LinkV RX12 207 yX12_onTo := ⟨Or.inl gl_RX12_207, gi_X12_onTo, gs_X12_onTo⟩
set_option maxRecDepth 50000 in
theorem gl_RX12_215 : Cond.methodLink RX12 215 yX12_ownGone ∈ GW := GW_in 1429 rfl rfl
theorem lk_RX12_215 : LinkV RX12 215 yX12_ownGone := ⟨Or.inl gl_RX12_215, gi_X12_ownGone, gs_X12_ownGone⟩
set_option maxRecDepth 50000 in
theorem gl_RL_79 : Cond.methodLink RL 79 yX12_move ∈ GW := GW_in 1433 rfl rfl
theorem lk_RL_79 : LinkV RL 79 yX12_move := ⟨Or.inl gl_RL_79, gi_X12_move, gs_X12_move⟩
set_option maxRecDepth 50000 in
theorem gl_RL_83 : Cond.methodLink RL 83 yX12_go ∈ GW := GW_in 1437 rfl rfl
theorem lk_RL_83 : LinkV RL 83 yX12_go := ⟨Or.inl gl_RL_83, gi_X12_go, gs_X12_go⟩
set_option maxRecDepth 50000 in
theorem gl_RX12_251 : Cond.methodLink RX12 251 yX12_goes ∈ GW := GW_in 1441 rfl rfl
theorem lk_RX12_251 : LinkV RX12 251 yX12_goes := ⟨Or.inl gl_RX12_251, gi_X12_goes, gs_X12_goes⟩
set_option maxRecDepth 50000 in
theorem gl_RL_88 : Cond.methodLink RL 88 yX12_chance ∈ GW := GW_in 1445 rfl rfl
theorem lk_RL_88 : LinkV RL 88 yX12_chance := ⟨Or.inl gl_RL_88, gi_X12_chance, gs_X12_chance⟩
set_option maxRecDepth 50000 in
theorem gl_RX12_295 : Cond.methodLink RX12 295 yX12_valueOf ∈ GW := GW_in 1451 rfl rfl
theorem lk_RX12_295 : LinkV RX12 295 yX12_valueOf := ⟨Or.inl gl_RX12_295, gi_X12_valueOf, gs_X12_valueOf⟩
set_option maxRecDepth 50000 in
theorem gl_RX12_260 : Cond.methodLink RX12 260 yX12_wonNow ∈ GW := GW_in 1455 rfl rfl
theorem lk_RX12_260 : LinkV RX12 260 yX12_wonNow := ⟨Or.inl gl_RX12_260, gi_X12_wonNow, gs_X12_wonNow⟩
set_option maxRecDepth 50000 in
theorem gl_RX12_275 : Cond.methodLink RX12 275 yX12_one ∈ GW := GW_in 1459 rfl rfl
theorem lk_RX12_275 : LinkV RX12 275 yX12_one := ⟨Or.inl gl_RX12_275, gi_X12_one, gs_X12_one⟩
set_option maxRecDepth 50000 in
theorem gl_RX12_271 : Cond.methodLink RX12 271 yX12_windOfOne ∈ GW := GW_in 1463 rfl rfl
theorem lk_RX12_271 : LinkV RX12 271 yX12_windOfOne := ⟨Or.inl gl_RX12_271, gi_X12_windOfOne, gs_X12_windOfOne⟩
set_option maxRecDepth 50000 in
theorem gl_RX12_254 : Cond.methodLink RX12 254 yX12_saves ∈ GW := GW_in 1467 rfl rfl
theorem lk_RX12_254 : LinkV RX12 254 yX12_saves := ⟨Or.inl gl_RX12_254, gi_X12_saves, gs_X12_saves⟩
set_option maxRecDepth 50000 in
theorem gl_RX12_257 : Cond.methodLink RX12 257 yX12_returns ∈ GW := GW_in 1471 rfl rfl
theorem lk_RX12_257 : LinkV RX12 257 yX12_returns := ⟨Or.inl gl_RX12_257, gi_X12_returns, gs_X12_returns⟩
set_option maxRecDepth 50000 in
theorem gl_RX12_264 : Cond.methodLink RX12 264 yX12_isBetter ∈ GW := GW_in 1475 rfl rfl
theorem lk_RX12_264 : LinkS RX12 264 yX12_isBetter := ⟨Or.inl gl_RX12_264, gt_X12_isBetter⟩
set_option maxRecDepth 50000 in
theorem gl_RX12_281 : Cond.methodLink RX12 281 yX12_two ∈ GW := GW_in 1478 rfl rfl
theorem lk_RX12_281 : LinkV RX12 281 yX12_two := ⟨Or.inl gl_RX12_281, gi_X12_two, gs_X12_two⟩
set_option maxRecDepth 50000 in
theorem gl_RX12_278 : Cond.methodLink RX12 278 yX12_windOfTwo ∈ GW := GW_in 1482 rfl rfl
theorem lk_RX12_278 : LinkV RX12 278 yX12_windOfTwo := ⟨Or.inl gl_RX12_278, gi_X12_windOfTwo, gs_X12_windOfTwo⟩
set_option maxRecDepth 50000 in
theorem gl_RX12_284 : Cond.methodLink RX12 284 yX12_windOfThree ∈ GW := GW_in 1486 rfl rfl
theorem lk_RX12_284 : LinkV RX12 284 yX12_windOfThree := ⟨Or.inl gl_RX12_284, gi_X12_windOfThree, gs_X12_windOfThree⟩
set_option maxRecDepth 50000 in
theorem gl_RX12_298 : Cond.methodLink RX12 298 yX12_told ∈ GW := GW_in 1490 rfl rfl
theorem lk_RX12_298 : LinkV RX12 298 yX12_told := ⟨Or.inl gl_RX12_298, gi_X12_told, gs_X12_told⟩
set_option maxRecDepth 50000 in
theorem gl_RX12_287 : Cond.methodLink RX12 287 yX12_common ∈ GW := GW_in 1494 rfl rfl
theorem lk_RX12_287 : LinkS RX12 287 yX12_common := ⟨Or.inl gl_RX12_287, gt_X12_common⟩
set_option maxRecDepth 50000 in
theorem gl_RL_92 : Cond.methodLink RL 92 yX12_byWind ∈ GW := GW_in 1497 rfl rfl
theorem lk_RL_92 : LinkV RL 92 yX12_byWind := ⟨Or.inl gl_RL_92, gi_X12_byWind, gs_X12_byWind⟩
set_option maxRecDepth 50000 in
theorem gl_RX12_304 : Cond.methodLink RX12 304 yX12_windOf ∈ GW := GW_in 1502 rfl rfl
theorem lk_RX12_304 : LinkV RX12 304 yX12_windOf := ⟨Or.inl gl_RX12_304, gi_X12_windOf, gs_X12_windOf⟩
set_option maxRecDepth 50000 in
theorem gl_RL_96 : Cond.methodLink RL 96 yX12_best ∈ GW := GW_in 1506 rfl rfl
theorem lk_RL_96 : LinkV RL 96 yX12_best := ⟨Or.inl gl_RL_96, gi_X12_best, gs_X12_best⟩
set_option maxRecDepth 50000 in
theorem gl_RL_100 : Cond.methodLink RL 100 yX12_hope ∈ GW := GW_in 1510 rfl rfl
theorem lk_RL_100 : LinkV RL 100 yX12_hope := ⟨Or.inl gl_RL_100, gi_X12_hope, gs_X12_hope⟩
set_option maxRecDepth 50000 in
theorem gl_RL_105 : Cond.methodLink RL 105 yX12_since ∈ GW := GW_in 1514 rfl rfl
theorem lk_RL_105 : LinkV RL 105 yX12_since := ⟨Or.inl gl_RL_105, gi_X12_since, gs_X12_since⟩
set_option maxRecDepth 50000 in
theorem gl_RX12_339 : Cond.methodLink RX12 339 yX12_findRows ∈ GW := GW_in 1520 rfl rfl
theorem lk_RX12_339 : LinkV RX12 339 yX12_findRows := ⟨Or.inl gl_RX12_339, gi_X12_findRows, gs_X12_findRows⟩
set_option maxRecDepth 50000 in
theorem gl_RX12_329 : Cond.methodLink RX12 329 yX12_leaf ∈ GW := GW_in 1524 rfl rfl
theorem lk_RX12_329 : LinkV RX12 329 yX12_leaf := ⟨Or.inl gl_RX12_329, gi_X12_leaf, gs_X12_leaf⟩
set_option maxRecDepth 50000 in
theorem gl_RX12_308 : Cond.methodLink RX12 308 yX12_isAsNow ∈ GW := GW_in 1528 rfl rfl
theorem lk_RX12_308 : LinkV RX12 308 yX12_isAsNow := ⟨Or.inl gl_RX12_308, gi_X12_isAsNow, gs_X12_isAsNow⟩
set_option maxRecDepth 50000 in
theorem gl_RX12_312 : Cond.methodLink RX12 312 yX12_isAsSeen ∈ GW := GW_in 1532 rfl rfl
theorem lk_RX12_312 : LinkV RX12 312 yX12_isAsSeen := ⟨Or.inl gl_RX12_312, gi_X12_isAsSeen, gs_X12_isAsSeen⟩
set_option maxRecDepth 50000 in
theorem gl_RX12_332 : Cond.methodLink RX12 332 yX12_enters ∈ GW := GW_in 1537 rfl rfl
theorem lk_RX12_332 : LinkV RX12 332 yX12_enters := ⟨Or.inl gl_RX12_332, gi_X12_enters, gs_X12_enters⟩
set_option maxRecDepth 50000 in
theorem gl_RL_109 : Cond.methodLink RL 109 yX12_see ∈ GW := GW_in 1541 rfl rfl
theorem lk_RL_109 : LinkV RL 109 yX12_see := ⟨Or.inl gl_RL_109, gi_X12_see, gs_X12_see⟩
set_option maxRecDepth 50000 in
theorem gl_RL_113 : Cond.methodLink RL 113 yX12_forget ∈ GW := GW_in 1545 rfl rfl
theorem lk_RL_113 : LinkV RL 113 yX12_forget := ⟨Or.inl gl_RL_113, gi_X12_forget, gs_X12_forget⟩
set_option maxRecDepth 50000 in
theorem gl_RL_117 : Cond.methodLink RL 117 yX12_fits ∈ GW := GW_in 1549 rfl rfl
theorem lk_RL_117 : LinkV RL 117 yX12_fits := ⟨Or.inl gl_RL_117, gi_X12_fits, gs_X12_fits⟩
set_option maxRecDepth 50000 in
theorem gl_RL_121 : Cond.methodLink RL 121 yX12_where ∈ GW := GW_in 1553 rfl rfl
theorem lk_RL_121 : LinkV RL 121 yX12_where := ⟨Or.inl gl_RL_121, gi_X12_where, gs_X12_where⟩
set_option maxRecDepth 50000 in
theorem gl_RL_125 : Cond.methodLink RL 125 yX12_tell ∈ GW := GW_in 1557 rfl rfl
theorem lk_RL_125 : LinkV RL 125 yX12_tell := ⟨Or.inl gl_RL_125, gi_X12_tell, gs_X12_tell⟩
set_option maxRecDepth 50000 in
theorem gl_RL_129 : Cond.methodLink RL 129 yX12_drop ∈ GW := GW_in 1561 rfl rfl
theorem lk_RL_129 : LinkV RL 129 yX12_drop := ⟨Or.inl gl_RL_129, gi_X12_drop, gs_X12_drop⟩
set_option maxRecDepth 50000 in
theorem gl_RL_133 : Cond.methodLink RL 133 yX12_blow ∈ GW := GW_in 1565 rfl rfl
theorem lk_RL_133 : LinkV RL 133 yX12_blow := ⟨Or.inl gl_RL_133, gi_X12_blow, gs_X12_blow⟩
set_option maxRecDepth 50000 in
theorem gl_RX12_343 : Cond.methodLink RX12 343 yX12_blownOf ∈ GW := GW_in 1570 rfl rfl
theorem lk_RX12_343 : LinkV RX12 343 yX12_blownOf := ⟨Or.inl gl_RX12_343, gi_X12_blownOf, gs_X12_blownOf⟩
set_option maxRecDepth 50000 in
theorem gl_RL_137 : Cond.methodLink RL 137 yX12_gale ∈ GW := GW_in 1574 rfl rfl
theorem lk_RL_137 : LinkV RL 137 yX12_gale := ⟨Or.inl gl_RL_137, gi_X12_gale, gs_X12_gale⟩
set_option maxRecDepth 50000 in
theorem gl_RL_141 : Cond.methodLink RL 141 yX12_keep ∈ GW := GW_in 1580 rfl rfl
theorem lk_RL_141 : LinkV RL 141 yX12_keep := ⟨Or.inl gl_RL_141, gi_X12_keep, gs_X12_keep⟩
set_option maxRecDepth 50000 in
theorem gl_RX12_349 : Cond.methodLink RX12 349 yX12_copies ∈ GW := GW_in 1584 rfl rfl
theorem lk_RX12_349 : LinkV RX12 349 yX12_copies := ⟨Or.inl gl_RX12_349, gi_X12_copies, gs_X12_copies⟩
set_option maxRecDepth 50000 in
theorem gl_RL_145 : Cond.methodLink RL 145 yX12_back ∈ GW := GW_in 1588 rfl rfl
theorem lk_RL_145 : LinkV RL 145 yX12_back := ⟨Or.inl gl_RL_145, gi_X12_back, gs_X12_back⟩
set_option maxRecDepth 50000 in
theorem gl_RL_149 : Cond.methodLink RL 149 yX12_sheet ∈ GW := GW_in 1592 rfl rfl
theorem lk_RL_149 : LinkV RL 149 yX12_sheet := ⟨Or.inl gl_RL_149, gi_X12_sheet, gs_X12_sheet⟩
set_option maxRecDepth 50000 in
theorem gl_RX12_354 : Cond.methodLink RX12 354 yX12_isSheet ∈ GW := GW_in 1596 rfl rfl
theorem lk_RX12_354 : LinkS RX12 354 yX12_isSheet := ⟨Or.inl gl_RX12_354, gt_X12_isSheet⟩
set_option maxRecDepth 50000 in
theorem gl_RL_153 : Cond.methodLink RL 153 yX12_lay ∈ GW := GW_in 1600 rfl rfl
theorem lk_RL_153 : LinkV RL 153 yX12_lay := ⟨Or.inl gl_RL_153, gi_X12_lay, gs_X12_lay⟩
set_option maxRecDepth 50000 in
theorem gl_RL_158 : Cond.methodLink RL 158 yX12_read ∈ GW := GW_in 1604 rfl rfl
theorem lk_RL_158 : LinkV RL 158 yX12_read := ⟨Or.inl gl_RL_158, gi_X12_read, gs_X12_read⟩
set_option maxRecDepth 50000 in
theorem gl_RX12_360 : Cond.methodLink RX12 360 yX12_go ∈ GW := GW_in 1609 rfl rfl
theorem lk_RX12_360 : LinkV RX12 360 yX12_go := ⟨Or.inl gl_RX12_360, gi_X12_go, gs_X12_go⟩
set_option maxRecDepth 50000 in
theorem gl_RL_162 : Cond.methodLink RL 162 yX12_torn ∈ GW := GW_in 1610 rfl rfl
theorem lk_RL_162 : LinkV RL 162 yX12_torn := ⟨Or.inl gl_RL_162, gi_X12_torn, gs_X12_torn⟩
set_option maxRecDepth 50000 in
theorem gl_RL_166 : Cond.methodLink RL 166 yX12_count ∈ GW := GW_in 1614 rfl rfl
theorem lk_RL_166 : LinkV RL 166 yX12_count := ⟨Or.inl gl_RL_166, gi_X12_count, gs_X12_count⟩
theorem lk_RX11_9 : LinkI RX11 9 yX3_init := ⟨Or.inr ⟨"WeatherChess", List.mem_of_getElem? (i := 0) rfl⟩, gi_X3_init, rfl⟩
theorem lk_RX3_11 : LinkI RX3 11 yX5_init := ⟨Or.inr ⟨"WeatherChess", List.mem_of_getElem? (i := 1) rfl⟩, gi_X5_init, rfl⟩
theorem lk_RX3_20 : LinkI RX3 20 yX8_init := ⟨Or.inr ⟨"WeatherChess", List.mem_of_getElem? (i := 2) rfl⟩, gi_X8_init, rfl⟩
theorem lk_RX11_26 : LinkI RX11 26 yX10_init := ⟨Or.inr ⟨"WeatherChess", List.mem_of_getElem? (i := 3) rfl⟩, gi_X10_init, rfl⟩
theorem lk_RX10_17 : LinkI RX10 17 yX3_init := ⟨Or.inr ⟨"WeatherChess", List.mem_of_getElem? (i := 4) rfl⟩, gi_X3_init, rfl⟩
theorem lk_RX9_11 : LinkI RX9 11 yX8_init := ⟨Or.inr ⟨"WeatherChess", List.mem_of_getElem? (i := 5) rfl⟩, gi_X8_init, rfl⟩
theorem lk_RX11_41 : LinkI RX11 41 yX6_init := ⟨Or.inr ⟨"WeatherChess", List.mem_of_getElem? (i := 6) rfl⟩, gi_X6_init, rfl⟩
theorem lk_RX6_11 : LinkI RX6 11 yX4_init := ⟨Or.inr ⟨"WeatherChess", List.mem_of_getElem? (i := 7) rfl⟩, gi_X4_init, rfl⟩
theorem lk_RX4_3 : LinkI RX4 3 yX2_init := ⟨Or.inr ⟨"WeatherChess", List.mem_of_getElem? (i := 8) rfl⟩, gi_X2_init, rfl⟩
theorem lk_RX6_20 : LinkI RX6 20 yX0_init := ⟨Or.inr ⟨"WeatherChess", List.mem_of_getElem? (i := 9) rfl⟩, gi_X0_init, rfl⟩
theorem lk_RX0_3 : LinkI RX0 3 yX2_init := ⟨Or.inr ⟨"WeatherChess", List.mem_of_getElem? (i := 10) rfl⟩, gi_X2_init, rfl⟩
theorem lk_RX11_48 : LinkI RX11 48 yX1_init := ⟨Or.inr ⟨"WeatherChess", List.mem_of_getElem? (i := 11) rfl⟩, gi_X1_init, rfl⟩
theorem lk_RX11_62 : LinkI RX11 62 yX8_init := ⟨Or.inr ⟨"WeatherChess", List.mem_of_getElem? (i := 12) rfl⟩, gi_X8_init, rfl⟩
theorem lk_RX8_37 : LinkS RX8 37 yX11_isSide := ⟨Or.inr ⟨"WeatherChess", List.mem_of_getElem? (i := 13) rfl⟩, gt_X11_isSide⟩
theorem lk_RX6_53 : LinkS RX6 53 yX11_countRows := ⟨Or.inr ⟨"WeatherChess", List.mem_of_getElem? (i := 14) rfl⟩, gt_X11_countRows⟩
theorem lk_RX0_36 : LinkS RX0 36 yX11_isSide := ⟨Or.inr ⟨"WeatherChess", List.mem_of_getElem? (i := 15) rfl⟩, gt_X11_isSide⟩
theorem lk_RX1_27 : LinkS RX1 27 yX11_power := ⟨Or.inr ⟨"WeatherChess", List.mem_of_getElem? (i := 16) rfl⟩, gt_X11_power⟩
theorem lk_RX1_55 : LinkS RX1 55 yX11_canTake := ⟨Or.inr ⟨"WeatherChess", List.mem_of_getElem? (i := 17) rfl⟩, gt_X11_canTake⟩
theorem lk_RX7_23 : LinkS RX7 23 yX11_isSheet := ⟨Or.inr ⟨"WeatherChess", List.mem_of_getElem? (i := 18) rfl⟩, gt_X11_isSheet⟩
theorem fl_RX5_9 : FL RX5 9 4 0 7 := ⟨RX5, TX5, rfl, by decide, GW_in 121 rfl rfl, gin_5⟩
theorem fl_RX3_68 : FL RX3 68 4 0 7 := ⟨RX5, TX5, rfl, by decide, GW_in 122 rfl rfl, gin_5⟩
theorem fl_RX5_15 : FL RX5 15 4 1 7 := ⟨RX5, TX5, rfl, by decide, GW_in 123 rfl rfl, gin_5⟩
theorem fl_RX3_65 : FL RX3 65 4 1 7 := ⟨RX5, TX5, rfl, by decide, GW_in 124 rfl rfl, gin_5⟩
theorem fl_RX5_18 : FL RX5 18 4 2 7 := ⟨RX5, TX5, rfl, by decide, GW_in 125 rfl rfl, gin_5⟩
theorem fl_RX5_21 : FL RX5 21 4 3 7 := ⟨RX5, TX5, rfl, by decide, GW_in 126 rfl rfl, gin_5⟩
theorem fl_RX10_110 : FL RX10 110 4 3 7 := ⟨RX5, TX5, rfl, by decide, GW_in 127 rfl rfl, gin_5⟩
theorem fl_RX11_108 : FL RX11 108 4 3 7 := ⟨RX5, TX5, rfl, by decide, GW_in 128 rfl rfl, gin_5⟩
theorem fl_RX5_25 : FL RX5 25 4 4 7 := ⟨RX5, TX5, rfl, by decide, GW_in 129 rfl rfl, gin_5⟩
theorem fl_RX11_113 : FL RX11 113 4 4 7 := ⟨RX5, TX5, rfl, by decide, GW_in 130 rfl rfl, gin_5⟩
theorem fl_RX10_115 : FL RX10 115 4 4 7 := ⟨RX5, TX5, rfl, by decide, GW_in 131 rfl rfl, gin_5⟩
theorem fl_RX5_28 : FL RX5 28 4 5 7 := ⟨RX5, TX5, rfl, by decide, GW_in 132 rfl rfl, gin_5⟩
theorem fl_RX11_119 : FL RX11 119 4 5 7 := ⟨RX5, TX5, rfl, by decide, GW_in 133 rfl rfl, gin_5⟩
theorem fl_RX8_64 : FL RX8 64 4 5 7 := ⟨RX5, TX5, rfl, by decide, GW_in 134 rfl rfl, gin_5⟩
theorem fl_RX10_184 : FL RX10 184 4 5 7 := ⟨RX5, TX5, rfl, by decide, GW_in 135 rfl rfl, gin_5⟩
theorem fl_RX5_31 : FL RX5 31 4 6 7 := ⟨RX5, TX5, rfl, by decide, GW_in 136 rfl rfl, gin_5⟩
theorem fl_RX4_25 : FL RX4 25 4 6 7 := ⟨RX5, TX5, rfl, by decide, GW_in 137 rfl rfl, gin_5⟩
theorem fl_RX3_62 : FL RX3 62 4 6 7 := ⟨RX5, TX5, rfl, by decide, GW_in 138 rfl rfl, gin_5⟩
theorem fl_RX11_116 : FL RX11 116 4 6 7 := ⟨RX5, TX5, rfl, by decide, GW_in 139 rfl rfl, gin_5⟩
theorem fl_RX10_128 : FL RX10 128 4 6 7 := ⟨RX5, TX5, rfl, by decide, GW_in 140 rfl rfl, gin_5⟩
theorem fl_RX8_44 : FL RX8 44 4 6 7 := ⟨RX5, TX5, rfl, by decide, GW_in 141 rfl rfl, gin_5⟩
theorem fl_RX8_9 : FL RX8 9 7 0 4 := ⟨RX8, TX8, rfl, by decide, GW_in 164 rfl rfl, gin_8⟩
theorem fl_RX8_15 : FL RX8 15 7 1 4 := ⟨RX8, TX8, rfl, by decide, GW_in 165 rfl rfl, gin_8⟩
theorem fl_RX8_18 : FL RX8 18 7 2 4 := ⟨RX8, TX8, rfl, by decide, GW_in 166 rfl rfl, gin_8⟩
theorem fl_RX8_21 : FL RX8 21 7 3 4 := ⟨RX8, TX8, rfl, by decide, GW_in 167 rfl rfl, gin_8⟩
theorem fl_RX1_52 : FL RX1 52 7 3 4 := ⟨RX8, TX8, rfl, by decide, GW_in 168 rfl rfl, gin_8⟩
theorem fl_RX9_26 : FL RX9 26 7 3 4 := ⟨RX8, TX8, rfl, by decide, GW_in 169 rfl rfl, gin_8⟩
theorem fl_RX4_19 : FL RX4 19 7 3 4 := ⟨RX8, TX8, rfl, by decide, GW_in 170 rfl rfl, gin_8⟩
theorem fl_RX11_125 : FL RX11 125 7 3 4 := ⟨RX8, TX8, rfl, by decide, GW_in 171 rfl rfl, gin_8⟩
theorem fl_RX10_150 : FL RX10 150 7 3 4 := ⟨RX8, TX8, rfl, by decide, GW_in 172 rfl rfl, gin_8⟩
theorem fl_RX3_12 : FL RX3 12 2 0 8 := ⟨RX3, TX3, rfl, by decide, GW_in 182 rfl rfl, gin_3⟩
theorem fl_RX1_48 : FL RX1 48 2 0 8 := ⟨RX3, TX3, rfl, by decide, GW_in 183 rfl rfl, gin_3⟩
theorem fl_RX10_103 : FL RX10 103 2 0 8 := ⟨RX3, TX3, rfl, by decide, GW_in 184 rfl rfl, gin_3⟩
theorem fl_RX11_104 : FL RX11 104 2 0 8 := ⟨RX3, TX3, rfl, by decide, GW_in 185 rfl rfl, gin_3⟩
theorem fl_RX3_21 : FL RX3 21 2 1 8 := ⟨RX3, TX3, rfl, by decide, GW_in 186 rfl rfl, gin_3⟩
theorem fl_RX1_41 : FL RX1 41 2 1 8 := ⟨RX3, TX3, rfl, by decide, GW_in 187 rfl rfl, gin_3⟩
theorem fl_RX11_122 : FL RX11 122 2 1 8 := ⟨RX3, TX3, rfl, by decide, GW_in 188 rfl rfl, gin_3⟩
theorem fl_RX10_146 : FL RX10 146 2 1 8 := ⟨RX3, TX3, rfl, by decide, GW_in 189 rfl rfl, gin_3⟩
theorem fl_RX3_25 : FL RX3 25 2 2 8 := ⟨RX3, TX3, rfl, by decide, GW_in 190 rfl rfl, gin_3⟩
theorem fl_RX0_24 : FL RX0 24 2 2 8 := ⟨RX3, TX3, rfl, by decide, GW_in 191 rfl rfl, gin_3⟩
theorem fl_RX3_29 : FL RX3 29 2 3 8 := ⟨RX3, TX3, rfl, by decide, GW_in 192 rfl rfl, gin_3⟩
theorem fl_RX0_33 : FL RX0 33 2 3 8 := ⟨RX3, TX3, rfl, by decide, GW_in 193 rfl rfl, gin_3⟩
theorem fl_RX3_32 : FL RX3 32 2 4 8 := ⟨RX3, TX3, rfl, by decide, GW_in 194 rfl rfl, gin_3⟩
theorem fl_RX3_39 : FL RX3 39 2 5 8 := ⟨RX3, TX3, rfl, by decide, GW_in 195 rfl rfl, gin_3⟩
theorem fl_RX11_128 : FL RX11 128 2 5 8 := ⟨RX3, TX3, rfl, by decide, GW_in 196 rfl rfl, gin_3⟩
theorem fl_RX3_43 : FL RX3 43 2 6 8 := ⟨RX3, TX3, rfl, by decide, GW_in 197 rfl rfl, gin_3⟩
theorem fl_RX0_19 : FL RX0 19 2 6 8 := ⟨RX3, TX3, rfl, by decide, GW_in 198 rfl rfl, gin_3⟩
theorem fl_RX11_268 : FL RX11 268 2 6 8 := ⟨RX3, TX3, rfl, by decide, GW_in 199 rfl rfl, gin_3⟩
theorem fl_RX1_22 : FL RX1 22 2 7 8 := ⟨RX3, TX3, rfl, by decide, GW_in 200 rfl rfl, gin_3⟩
theorem fl_RX3_46 : FL RX3 46 2 7 8 := ⟨RX3, TX3, rfl, by decide, GW_in 201 rfl rfl, gin_3⟩
theorem fl_RX11_280 : FL RX11 280 2 7 8 := ⟨RX3, TX3, rfl, by decide, GW_in 202 rfl rfl, gin_3⟩
theorem fl_RX10_9 : FL RX10 9 9 0 13 := ⟨RX10, TX10, rfl, by decide, GW_in 229 rfl rfl, gin_10⟩
theorem fl_RX10_18 : FL RX10 18 9 1 13 := ⟨RX10, TX10, rfl, by decide, GW_in 230 rfl rfl, gin_10⟩
theorem fl_RX11_94 : FL RX11 94 9 1 13 := ⟨RX10, TX10, rfl, by decide, GW_in 231 rfl rfl, gin_10⟩
theorem fl_RX10_22 : FL RX10 22 9 2 13 := ⟨RX10, TX10, rfl, by decide, GW_in 232 rfl rfl, gin_10⟩
theorem fl_RX11_77 : FL RX11 77 9 2 13 := ⟨RX10, TX10, rfl, by decide, GW_in 233 rfl rfl, gin_10⟩
theorem fl_RX10_32 : FL RX10 32 9 3 13 := ⟨RX10, TX10, rfl, by decide, GW_in 234 rfl rfl, gin_10⟩
theorem fl_RX11_101 : FL RX11 101 9 3 13 := ⟨RX10, TX10, rfl, by decide, GW_in 235 rfl rfl, gin_10⟩
theorem fl_RX10_35 : FL RX10 35 9 4 13 := ⟨RX10, TX10, rfl, by decide, GW_in 236 rfl rfl, gin_10⟩
theorem fl_RX11_85 : FL RX11 85 9 4 13 := ⟨RX10, TX10, rfl, by decide, GW_in 237 rfl rfl, gin_10⟩
theorem fl_RX10_38 : FL RX10 38 9 5 13 := ⟨RX10, TX10, rfl, by decide, GW_in 238 rfl rfl, gin_10⟩
theorem fl_RX11_91 : FL RX11 91 9 5 13 := ⟨RX10, TX10, rfl, by decide, GW_in 239 rfl rfl, gin_10⟩
theorem fl_RX10_41 : FL RX10 41 9 6 13 := ⟨RX10, TX10, rfl, by decide, GW_in 240 rfl rfl, gin_10⟩
theorem fl_RX10_45 : FL RX10 45 9 7 13 := ⟨RX10, TX10, rfl, by decide, GW_in 241 rfl rfl, gin_10⟩
theorem fl_RX10_48 : FL RX10 48 9 8 13 := ⟨RX10, TX10, rfl, by decide, GW_in 242 rfl rfl, gin_10⟩
theorem fl_RX10_29 : FL RX10 29 9 9 13 := ⟨RX10, TX10, rfl, by decide, GW_in 243 rfl rfl, gin_10⟩
theorem fl_RX10_55 : FL RX10 55 9 10 13 := ⟨RX10, TX10, rfl, by decide, GW_in 244 rfl rfl, gin_10⟩
theorem fl_RX10_93 : FL RX10 93 9 11 13 := ⟨RX10, TX10, rfl, by decide, GW_in 245 rfl rfl, gin_10⟩
theorem fl_RX10_107 : FL RX10 107 9 12 13 := ⟨RX10, TX10, rfl, by decide, GW_in 246 rfl rfl, gin_10⟩
theorem fl_RX9_12 : FL RX9 12 8 0 5 := ⟨RX9, TX9, rfl, by decide, GW_in 287 rfl rfl, gin_9⟩
theorem fl_RX6_41 : FL RX6 41 8 0 5 := ⟨RX9, TX9, rfl, by decide, GW_in 288 rfl rfl, gin_9⟩
theorem fl_RX1_35 : FL RX1 35 8 0 5 := ⟨RX9, TX9, rfl, by decide, GW_in 289 rfl rfl, gin_9⟩
theorem fl_RX11_210 : FL RX11 210 8 0 5 := ⟨RX9, TX9, rfl, by decide, GW_in 290 rfl rfl, gin_9⟩
theorem fl_RX9_18 : FL RX9 18 8 1 5 := ⟨RX9, TX9, rfl, by decide, GW_in 291 rfl rfl, gin_9⟩
theorem fl_RX11_296 : FL RX11 296 8 1 5 := ⟨RX9, TX9, rfl, by decide, GW_in 292 rfl rfl, gin_9⟩
theorem fl_RX9_22 : FL RX9 22 8 2 5 := ⟨RX9, TX9, rfl, by decide, GW_in 293 rfl rfl, gin_9⟩
theorem fl_RX6_73 : FL RX6 73 8 2 5 := ⟨RX9, TX9, rfl, by decide, GW_in 294 rfl rfl, gin_9⟩
theorem fl_RX11_371 : FL RX11 371 8 2 5 := ⟨RX9, TX9, rfl, by decide, GW_in 295 rfl rfl, gin_9⟩
theorem fl_RX6_70 : FL RX6 70 8 3 5 := ⟨RX9, TX9, rfl, by decide, GW_in 296 rfl rfl, gin_9⟩
theorem fl_RX11_390 : FL RX11 390 8 3 5 := ⟨RX9, TX9, rfl, by decide, GW_in 297 rfl rfl, gin_9⟩
theorem fl_RX9_38 : FL RX9 38 8 4 5 := ⟨RX9, TX9, rfl, by decide, GW_in 298 rfl rfl, gin_9⟩
theorem fl_RX11_234 : FL RX11 234 8 4 5 := ⟨RX9, TX9, rfl, by decide, GW_in 299 rfl rfl, gin_9⟩
set_option maxRecDepth 50000 in
theorem fl_RX4_9 : FL RX4 9 3 0 2 := ⟨RX4, TX4, rfl, by decide, GW_in 326 rfl rfl, gin_4⟩
set_option maxRecDepth 50000 in
theorem fl_RX4_15 : FL RX4 15 3 1 2 := ⟨RX4, TX4, rfl, by decide, GW_in 327 rfl rfl, gin_4⟩
set_option maxRecDepth 50000 in
theorem fl_RX0_9 : FL RX0 9 0 0 2 := ⟨RX0, TX0, rfl, by decide, GW_in 339 rfl rfl, gin_0⟩
set_option maxRecDepth 50000 in
theorem fl_RX0_15 : FL RX0 15 0 1 2 := ⟨RX0, TX0, rfl, by decide, GW_in 340 rfl rfl, gin_0⟩
set_option maxRecDepth 50000 in
theorem fl_RX6_12 : FL RX6 12 5 0 7 := ⟨RX6, TX6, rfl, by decide, GW_in 346 rfl rfl, gin_6⟩
set_option maxRecDepth 50000 in
theorem fl_RX11_247 : FL RX11 247 5 0 7 := ⟨RX6, TX6, rfl, by decide, GW_in 347 rfl rfl, gin_6⟩
set_option maxRecDepth 50000 in
theorem fl_RX6_21 : FL RX6 21 5 1 7 := ⟨RX6, TX6, rfl, by decide, GW_in 348 rfl rfl, gin_6⟩
set_option maxRecDepth 50000 in
theorem fl_RX11_349 : FL RX11 349 5 1 7 := ⟨RX6, TX6, rfl, by decide, GW_in 349 rfl rfl, gin_6⟩
set_option maxRecDepth 50000 in
theorem fl_RX6_25 : FL RX6 25 5 2 7 := ⟨RX6, TX6, rfl, by decide, GW_in 350 rfl rfl, gin_6⟩
set_option maxRecDepth 50000 in
theorem fl_RX6_29 : FL RX6 29 5 3 7 := ⟨RX6, TX6, rfl, by decide, GW_in 351 rfl rfl, gin_6⟩
set_option maxRecDepth 50000 in
theorem fl_RX6_33 : FL RX6 33 5 4 7 := ⟨RX6, TX6, rfl, by decide, GW_in 352 rfl rfl, gin_6⟩
set_option maxRecDepth 50000 in
theorem fl_RX6_57 : FL RX6 57 5 5 7 := ⟨RX6, TX6, rfl, by decide, GW_in 353 rfl rfl, gin_6⟩
set_option maxRecDepth 50000 in
theorem fl_RX11_357 : FL RX11 357 5 5 7 := ⟨RX6, TX6, rfl, by decide, GW_in 354 rfl rfl, gin_6⟩
set_option maxRecDepth 50000 in
theorem fl_RX6_37 : FL RX6 37 5 6 7 := ⟨RX6, TX6, rfl, by decide, GW_in 355 rfl rfl, gin_6⟩
set_option maxRecDepth 50000 in
theorem fl_RX11_274 : FL RX11 274 5 6 7 := ⟨RX6, TX6, rfl, by decide, GW_in 356 rfl rfl, gin_6⟩
set_option maxRecDepth 50000 in
theorem fl_RX1_9 : FL RX1 9 1 0 3 := ⟨RX1, TX1, rfl, by decide, GW_in 378 rfl rfl, gin_1⟩
set_option maxRecDepth 50000 in
theorem fl_RX1_15 : FL RX1 15 1 1 3 := ⟨RX1, TX1, rfl, by decide, GW_in 379 rfl rfl, gin_1⟩
set_option maxRecDepth 50000 in
theorem fl_RX1_18 : FL RX1 18 1 2 3 := ⟨RX1, TX1, rfl, by decide, GW_in 380 rfl rfl, gin_1⟩
set_option maxRecDepth 50000 in
theorem fl_RX11_286 : FL RX11 286 1 2 3 := ⟨RX1, TX1, rfl, by decide, GW_in 381 rfl rfl, gin_1⟩
set_option maxRecDepth 50000 in
theorem fl_RX7_9 : FL RX7 9 6 0 3 := ⟨RX7, TX7, rfl, by decide, GW_in 397 rfl rfl, gin_7⟩
set_option maxRecDepth 50000 in
theorem fl_RX7_15 : FL RX7 15 6 1 3 := ⟨RX7, TX7, rfl, by decide, GW_in 398 rfl rfl, gin_7⟩
set_option maxRecDepth 50000 in
theorem fl_RX7_20 : FL RX7 20 6 2 3 := ⟨RX7, TX7, rfl, by decide, GW_in 399 rfl rfl, gin_7⟩
set_option maxRecDepth 50000 in
theorem fl_RX11_10 : FL RX11 10 10 0 11 := ⟨RX11, TX11, rfl, by decide, GW_in 451 rfl rfl, gin_11⟩
set_option maxRecDepth 50000 in
theorem fl_RX11_16 : FL RX11 16 10 1 11 := ⟨RX11, TX11, rfl, by decide, GW_in 452 rfl rfl, gin_11⟩
set_option maxRecDepth 50000 in
theorem fl_RX11_20 : FL RX11 20 10 2 11 := ⟨RX11, TX11, rfl, by decide, GW_in 453 rfl rfl, gin_11⟩
set_option maxRecDepth 50000 in
theorem fl_RX11_27 : FL RX11 27 10 3 11 := ⟨RX11, TX11, rfl, by decide, GW_in 454 rfl rfl, gin_11⟩
set_option maxRecDepth 50000 in
theorem fl_RX11_35 : FL RX11 35 10 4 11 := ⟨RX11, TX11, rfl, by decide, GW_in 455 rfl rfl, gin_11⟩
set_option maxRecDepth 50000 in
theorem fl_RX11_42 : FL RX11 42 10 5 11 := ⟨RX11, TX11, rfl, by decide, GW_in 456 rfl rfl, gin_11⟩
set_option maxRecDepth 50000 in
theorem fl_RX11_49 : FL RX11 49 10 6 11 := ⟨RX11, TX11, rfl, by decide, GW_in 457 rfl rfl, gin_11⟩
set_option maxRecDepth 50000 in
theorem fl_RX11_56 : FL RX11 56 10 7 11 := ⟨RX11, TX11, rfl, by decide, GW_in 458 rfl rfl, gin_11⟩
set_option maxRecDepth 50000 in
theorem fl_RX11_63 : FL RX11 63 10 8 11 := ⟨RX11, TX11, rfl, by decide, GW_in 459 rfl rfl, gin_11⟩
set_option maxRecDepth 50000 in
theorem fl_RX11_88 : FL RX11 88 10 9 11 := ⟨RX11, TX11, rfl, by decide, GW_in 460 rfl rfl, gin_11⟩
set_option maxRecDepth 50000 in
theorem fl_RX11_334 : FL RX11 334 10 10 11 := ⟨RX11, TX11, rfl, by decide, GW_in 461 rfl rfl, gin_11⟩
set_option maxRecDepth 50000 in
theorem fl_RX12_7 : FL RX12 7 11 0 43 := ⟨RX12, TX12, rfl, by decide, GW_in 1119 rfl rfl, gin_12⟩
set_option maxRecDepth 50000 in
theorem fl_RX12_13 : FL RX12 13 11 1 43 := ⟨RX12, TX12, rfl, by decide, GW_in 1120 rfl rfl, gin_12⟩
set_option maxRecDepth 50000 in
theorem fl_RX12_99 : FL RX12 99 11 2 43 := ⟨RX12, TX12, rfl, by decide, GW_in 1121 rfl rfl, gin_12⟩
set_option maxRecDepth 50000 in
theorem fl_RX12_102 : FL RX12 102 11 3 43 := ⟨RX12, TX12, rfl, by decide, GW_in 1122 rfl rfl, gin_12⟩
set_option maxRecDepth 50000 in
theorem fl_RX12_105 : FL RX12 105 11 4 43 := ⟨RX12, TX12, rfl, by decide, GW_in 1123 rfl rfl, gin_12⟩
set_option maxRecDepth 50000 in
theorem fl_RX12_17 : FL RX12 17 11 5 43 := ⟨RX12, TX12, rfl, by decide, GW_in 1124 rfl rfl, gin_12⟩
set_option maxRecDepth 50000 in
theorem fl_RX12_20 : FL RX12 20 11 6 43 := ⟨RX12, TX12, rfl, by decide, GW_in 1125 rfl rfl, gin_12⟩
set_option maxRecDepth 50000 in
theorem fl_RX12_23 : FL RX12 23 11 7 43 := ⟨RX12, TX12, rfl, by decide, GW_in 1126 rfl rfl, gin_12⟩
set_option maxRecDepth 50000 in
theorem fl_RX12_83 : FL RX12 83 11 8 43 := ⟨RX12, TX12, rfl, by decide, GW_in 1127 rfl rfl, gin_12⟩
set_option maxRecDepth 50000 in
theorem fl_RX12_87 : FL RX12 87 11 9 43 := ⟨RX12, TX12, rfl, by decide, GW_in 1128 rfl rfl, gin_12⟩
set_option maxRecDepth 50000 in
theorem fl_RX12_90 : FL RX12 90 11 10 43 := ⟨RX12, TX12, rfl, by decide, GW_in 1129 rfl rfl, gin_12⟩
set_option maxRecDepth 50000 in
theorem fl_RX12_26 : FL RX12 26 11 11 43 := ⟨RX12, TX12, rfl, by decide, GW_in 1130 rfl rfl, gin_12⟩
set_option maxRecDepth 50000 in
theorem fl_RX12_29 : FL RX12 29 11 12 43 := ⟨RX12, TX12, rfl, by decide, GW_in 1131 rfl rfl, gin_12⟩
set_option maxRecDepth 50000 in
theorem fl_RX12_93 : FL RX12 93 11 13 43 := ⟨RX12, TX12, rfl, by decide, GW_in 1132 rfl rfl, gin_12⟩
set_option maxRecDepth 50000 in
theorem fl_RX12_96 : FL RX12 96 11 14 43 := ⟨RX12, TX12, rfl, by decide, GW_in 1133 rfl rfl, gin_12⟩
set_option maxRecDepth 50000 in
theorem fl_RX12_32 : FL RX12 32 11 15 43 := ⟨RX12, TX12, rfl, by decide, GW_in 1134 rfl rfl, gin_12⟩
set_option maxRecDepth 50000 in
theorem fl_RX12_108 : FL RX12 108 11 16 43 := ⟨RX12, TX12, rfl, by decide, GW_in 1135 rfl rfl, gin_12⟩
set_option maxRecDepth 50000 in
theorem fl_RX12_126 : FL RX12 126 11 17 43 := ⟨RX12, TX12, rfl, by decide, GW_in 1136 rfl rfl, gin_12⟩
set_option maxRecDepth 50000 in
theorem fl_RX12_120 : FL RX12 120 11 18 43 := ⟨RX12, TX12, rfl, by decide, GW_in 1137 rfl rfl, gin_12⟩
set_option maxRecDepth 50000 in
theorem fl_RX12_141 : FL RX12 141 11 19 43 := ⟨RX12, TX12, rfl, by decide, GW_in 1138 rfl rfl, gin_12⟩
set_option maxRecDepth 50000 in
theorem fl_RX12_152 : FL RX12 152 11 20 43 := ⟨RX12, TX12, rfl, by decide, GW_in 1139 rfl rfl, gin_12⟩
set_option maxRecDepth 50000 in
theorem fl_RX12_117 : FL RX12 117 11 21 43 := ⟨RX12, TX12, rfl, by decide, GW_in 1140 rfl rfl, gin_12⟩
set_option maxRecDepth 50000 in
theorem fl_RX12_123 : FL RX12 123 11 22 43 := ⟨RX12, TX12, rfl, by decide, GW_in 1141 rfl rfl, gin_12⟩
set_option maxRecDepth 50000 in
theorem fl_RX12_35 : FL RX12 35 11 23 43 := ⟨RX12, TX12, rfl, by decide, GW_in 1142 rfl rfl, gin_12⟩
set_option maxRecDepth 50000 in
theorem fl_RX12_38 : FL RX12 38 11 24 43 := ⟨RX12, TX12, rfl, by decide, GW_in 1143 rfl rfl, gin_12⟩
set_option maxRecDepth 50000 in
theorem fl_RX12_204 : FL RX12 204 11 25 43 := ⟨RX12, TX12, rfl, by decide, GW_in 1144 rfl rfl, gin_12⟩
set_option maxRecDepth 50000 in
theorem fl_RX12_41 : FL RX12 41 11 26 43 := ⟨RX12, TX12, rfl, by decide, GW_in 1145 rfl rfl, gin_12⟩
set_option maxRecDepth 50000 in
theorem fl_RX12_44 : FL RX12 44 11 27 43 := ⟨RX12, TX12, rfl, by decide, GW_in 1146 rfl rfl, gin_12⟩
set_option maxRecDepth 50000 in
theorem fl_RX12_47 : FL RX12 47 11 28 43 := ⟨RX12, TX12, rfl, by decide, GW_in 1147 rfl rfl, gin_12⟩
set_option maxRecDepth 50000 in
theorem fl_RX12_268 : FL RX12 268 11 29 43 := ⟨RX12, TX12, rfl, by decide, GW_in 1148 rfl rfl, gin_12⟩
set_option maxRecDepth 50000 in
theorem fl_RX12_50 : FL RX12 50 11 30 43 := ⟨RX12, TX12, rfl, by decide, GW_in 1149 rfl rfl, gin_12⟩
set_option maxRecDepth 50000 in
theorem fl_RX12_53 : FL RX12 53 11 31 43 := ⟨RX12, TX12, rfl, by decide, GW_in 1150 rfl rfl, gin_12⟩
set_option maxRecDepth 50000 in
theorem fl_RX12_56 : FL RX12 56 11 32 43 := ⟨RX12, TX12, rfl, by decide, GW_in 1151 rfl rfl, gin_12⟩
set_option maxRecDepth 50000 in
theorem fl_RX12_59 : FL RX12 59 11 33 43 := ⟨RX12, TX12, rfl, by decide, GW_in 1152 rfl rfl, gin_12⟩
set_option maxRecDepth 50000 in
theorem fl_RX12_315 : FL RX12 315 11 34 43 := ⟨RX12, TX12, rfl, by decide, GW_in 1153 rfl rfl, gin_12⟩
set_option maxRecDepth 50000 in
theorem fl_RX12_318 : FL RX12 318 11 35 43 := ⟨RX12, TX12, rfl, by decide, GW_in 1154 rfl rfl, gin_12⟩
set_option maxRecDepth 50000 in
theorem fl_RX12_321 : FL RX12 321 11 36 43 := ⟨RX12, TX12, rfl, by decide, GW_in 1155 rfl rfl, gin_12⟩
set_option maxRecDepth 50000 in
theorem fl_RX12_325 : FL RX12 325 11 37 43 := ⟨RX12, TX12, rfl, by decide, GW_in 1156 rfl rfl, gin_12⟩
set_option maxRecDepth 50000 in
theorem fl_RX12_62 : FL RX12 62 11 38 43 := ⟨RX12, TX12, rfl, by decide, GW_in 1157 rfl rfl, gin_12⟩
set_option maxRecDepth 50000 in
theorem fl_RX12_65 : FL RX12 65 11 39 43 := ⟨RX12, TX12, rfl, by decide, GW_in 1158 rfl rfl, gin_12⟩
set_option maxRecDepth 50000 in
theorem fl_RX12_68 : FL RX12 68 11 40 43 := ⟨RX12, TX12, rfl, by decide, GW_in 1159 rfl rfl, gin_12⟩
set_option maxRecDepth 50000 in
theorem fl_RX12_363 : FL RX12 363 11 41 43 := ⟨RX12, TX12, rfl, by decide, GW_in 1160 rfl rfl, gin_12⟩
set_option maxRecDepth 50000 in
theorem fl_RX12_71 : FL RX12 71 11 42 43 := ⟨RX12, TX12, rfl, by decide, GW_in 1161 rfl rfl, gin_12⟩
theorem fp_0_0 : FP 0 0 2 true (.array .int) := ⟨RX0, TX0, tyX0, rfl, rfl, rfl, by decide +kernel, tyX0_ok, nmX0⟩
theorem fp_0_1 : FP 0 1 2 false .int := ⟨RX0, TX0, tyX0, rfl, rfl, rfl, by decide +kernel, tyX0_ok, nmX0⟩
theorem fp_1_0 : FP 1 0 3 true (.array .int) := ⟨RX1, TX1, tyX1, rfl, rfl, rfl, by decide +kernel, tyX1_ok, nmX1⟩
theorem fp_1_1 : FP 1 1 3 true (.array .int) := ⟨RX1, TX1, tyX1, rfl, rfl, rfl, by decide +kernel, tyX1_ok, nmX1⟩
theorem fp_1_2 : FP 1 2 3 false .int := ⟨RX1, TX1, tyX1, rfl, rfl, rfl, by decide +kernel, tyX1_ok, nmX1⟩
theorem fp_2_0 : FP 2 0 8 true (.object "WeatherChess$Roofs") := ⟨RX3, TX3, tyX3, rfl, rfl, rfl, by decide +kernel, tyX3_ok, nmX3⟩
theorem fp_2_1 : FP 2 1 8 true (.object "WeatherChess$Stand") := ⟨RX3, TX3, tyX3, rfl, rfl, rfl, by decide +kernel, tyX3_ok, nmX3⟩
theorem fp_2_2 : FP 2 2 8 true (.array .int) := ⟨RX3, TX3, tyX3, rfl, rfl, rfl, by decide +kernel, tyX3_ok, nmX3⟩
theorem fp_2_3 : FP 2 3 8 true (.array .int) := ⟨RX3, TX3, tyX3, rfl, rfl, rfl, by decide +kernel, tyX3_ok, nmX3⟩
theorem fp_2_4 : FP 2 4 8 true (.array .int) := ⟨RX3, TX3, tyX3, rfl, rfl, rfl, by decide +kernel, tyX3_ok, nmX3⟩
theorem fp_2_5 : FP 2 5 8 false .int := ⟨RX3, TX3, tyX3, rfl, rfl, rfl, by decide +kernel, tyX3_ok, nmX3⟩
theorem fp_2_6 : FP 2 6 8 false .int := ⟨RX3, TX3, tyX3, rfl, rfl, rfl, by decide +kernel, tyX3_ok, nmX3⟩
theorem fp_2_7 : FP 2 7 8 false .int := ⟨RX3, TX3, tyX3, rfl, rfl, rfl, by decide +kernel, tyX3_ok, nmX3⟩
theorem fp_3_0 : FP 3 0 2 false (.object "WeatherChess$Roofs") := ⟨RX4, TX4, tyX4, rfl, rfl, rfl, by decide +kernel, tyX4_ok, nmX4⟩
theorem fp_3_1 : FP 3 1 2 false (.object "WeatherChess$Stand") := ⟨RX4, TX4, tyX4, rfl, rfl, rfl, by decide +kernel, tyX4_ok, nmX4⟩
theorem fp_4_0 : FP 4 0 7 true (.array .int) := ⟨RX5, TX5, tyX5, rfl, rfl, rfl, by decide +kernel, tyX5_ok, nmX5⟩
theorem fp_4_1 : FP 4 1 7 true (.array .int) := ⟨RX5, TX5, tyX5, rfl, rfl, rfl, by decide +kernel, tyX5_ok, nmX5⟩
theorem fp_4_2 : FP 4 2 7 true (.array .int) := ⟨RX5, TX5, tyX5, rfl, rfl, rfl, by decide +kernel, tyX5_ok, nmX5⟩
theorem fp_4_3 : FP 4 3 7 false .int := ⟨RX5, TX5, tyX5, rfl, rfl, rfl, by decide +kernel, tyX5_ok, nmX5⟩
theorem fp_4_4 : FP 4 4 7 false .int := ⟨RX5, TX5, tyX5, rfl, rfl, rfl, by decide +kernel, tyX5_ok, nmX5⟩
theorem fp_4_5 : FP 4 5 7 false .int := ⟨RX5, TX5, tyX5, rfl, rfl, rfl, by decide +kernel, tyX5_ok, nmX5⟩
theorem fp_4_6 : FP 4 6 7 false .int := ⟨RX5, TX5, tyX5, rfl, rfl, rfl, by decide +kernel, tyX5_ok, nmX5⟩
theorem fp_5_0 : FP 5 0 7 true (.object "WeatherChess$Reached") := ⟨RX6, TX6, tyX6, rfl, rfl, rfl, by decide +kernel, tyX6_ok, nmX6⟩
theorem fp_5_1 : FP 5 1 7 true (.object "WeatherChess$AsSeen") := ⟨RX6, TX6, tyX6, rfl, rfl, rfl, by decide +kernel, tyX6_ok, nmX6⟩
theorem fp_5_2 : FP 5 2 7 true (.array .int) := ⟨RX6, TX6, tyX6, rfl, rfl, rfl, by decide +kernel, tyX6_ok, nmX6⟩
theorem fp_5_3 : FP 5 3 7 false (.object "WeatherChess$Step") := ⟨RX6, TX6, tyX6, rfl, rfl, rfl, by decide +kernel, tyX6_ok, nmX6⟩
theorem fp_5_4 : FP 5 4 7 false .boolean := ⟨RX6, TX6, tyX6, rfl, rfl, rfl, by decide +kernel, tyX6_ok, nmX6⟩
theorem fp_5_5 : FP 5 5 7 false .int := ⟨RX6, TX6, tyX6, rfl, rfl, rfl, by decide +kernel, tyX6_ok, nmX6⟩
theorem fp_5_6 : FP 5 6 7 false .int := ⟨RX6, TX6, tyX6, rfl, rfl, rfl, by decide +kernel, tyX6_ok, nmX6⟩
theorem fp_6_0 : FP 6 0 3 true (.array .int) := ⟨RX7, TX7, tyX7, rfl, rfl, rfl, by decide +kernel, tyX7_ok, nmX7⟩
theorem fp_6_1 : FP 6 1 3 true (.array .int) := ⟨RX7, TX7, tyX7, rfl, rfl, rfl, by decide +kernel, tyX7_ok, nmX7⟩
theorem fp_6_2 : FP 6 2 3 true (.array (.array .int)) := ⟨RX7, TX7, tyX7, rfl, rfl, rfl, by decide +kernel, tyX7_ok, nmX7⟩
theorem fp_7_0 : FP 7 0 4 true (.array .int) := ⟨RX8, TX8, tyX8, rfl, rfl, rfl, by decide +kernel, tyX8_ok, nmX8⟩
theorem fp_7_1 : FP 7 1 4 true (.array .int) := ⟨RX8, TX8, tyX8, rfl, rfl, rfl, by decide +kernel, tyX8_ok, nmX8⟩
theorem fp_7_2 : FP 7 2 4 true (.array .int) := ⟨RX8, TX8, tyX8, rfl, rfl, rfl, by decide +kernel, tyX8_ok, nmX8⟩
theorem fp_7_3 : FP 7 3 4 false .int := ⟨RX8, TX8, tyX8, rfl, rfl, rfl, by decide +kernel, tyX8_ok, nmX8⟩
theorem fp_8_0 : FP 8 0 5 true (.object "WeatherChess$Stand") := ⟨RX9, TX9, tyX9, rfl, rfl, rfl, by decide +kernel, tyX9_ok, nmX9⟩
theorem fp_8_1 : FP 8 1 5 true (.array .int) := ⟨RX9, TX9, tyX9, rfl, rfl, rfl, by decide +kernel, tyX9_ok, nmX9⟩
theorem fp_8_2 : FP 8 2 5 true (.object "WeatherChess$Step") := ⟨RX9, TX9, tyX9, rfl, rfl, rfl, by decide +kernel, tyX9_ok, nmX9⟩
theorem fp_8_3 : FP 8 3 5 false .int := ⟨RX9, TX9, tyX9, rfl, rfl, rfl, by decide +kernel, tyX9_ok, nmX9⟩
theorem fp_8_4 : FP 8 4 5 false .int := ⟨RX9, TX9, tyX9, rfl, rfl, rfl, by decide +kernel, tyX9_ok, nmX9⟩
theorem fp_9_0 : FP 9 0 13 true (.array .byte) := ⟨RX10, TX10, tyX10, rfl, rfl, rfl, by decide +kernel, tyX10_ok, nmX10⟩
theorem fp_9_1 : FP 9 1 13 true (.object "WeatherChess$Game") := ⟨RX10, TX10, tyX10, rfl, rfl, rfl, by decide +kernel, tyX10_ok, nmX10⟩
theorem fp_9_2 : FP 9 2 13 false .int := ⟨RX10, TX10, tyX10, rfl, rfl, rfl, by decide +kernel, tyX10_ok, nmX10⟩
theorem fp_9_3 : FP 9 3 13 false .int := ⟨RX10, TX10, tyX10, rfl, rfl, rfl, by decide +kernel, tyX10_ok, nmX10⟩
theorem fp_9_4 : FP 9 4 13 false .int := ⟨RX10, TX10, tyX10, rfl, rfl, rfl, by decide +kernel, tyX10_ok, nmX10⟩
theorem fp_9_5 : FP 9 5 13 false .int := ⟨RX10, TX10, tyX10, rfl, rfl, rfl, by decide +kernel, tyX10_ok, nmX10⟩
theorem fp_9_6 : FP 9 6 13 false .boolean := ⟨RX10, TX10, tyX10, rfl, rfl, rfl, by decide +kernel, tyX10_ok, nmX10⟩
theorem fp_9_7 : FP 9 7 13 false .boolean := ⟨RX10, TX10, tyX10, rfl, rfl, rfl, by decide +kernel, tyX10_ok, nmX10⟩
theorem fp_9_8 : FP 9 8 13 false .boolean := ⟨RX10, TX10, tyX10, rfl, rfl, rfl, by decide +kernel, tyX10_ok, nmX10⟩
theorem fp_9_9 : FP 9 9 13 false .int := ⟨RX10, TX10, tyX10, rfl, rfl, rfl, by decide +kernel, tyX10_ok, nmX10⟩
theorem fp_9_10 : FP 9 10 13 false .int := ⟨RX10, TX10, tyX10, rfl, rfl, rfl, by decide +kernel, tyX10_ok, nmX10⟩
theorem fp_9_11 : FP 9 11 13 false .int := ⟨RX10, TX10, tyX10, rfl, rfl, rfl, by decide +kernel, tyX10_ok, nmX10⟩
theorem fp_9_12 : FP 9 12 13 false .int := ⟨RX10, TX10, tyX10, rfl, rfl, rfl, by decide +kernel, tyX10_ok, nmX10⟩
theorem fp_10_0 : FP 10 0 11 true (.object "WeatherChess$Game") := ⟨RX11, TX11, tyX11, rfl, rfl, rfl, by decide +kernel, tyX11_ok, nmX11⟩
theorem fp_10_1 : FP 10 1 11 true (.array (.object "WeatherChess$Game")) := ⟨RX11, TX11, tyX11, rfl, rfl, rfl, by decide +kernel, tyX11_ok, nmX11⟩
theorem fp_10_2 : FP 10 2 11 true (.array .boolean) := ⟨RX11, TX11, tyX11, rfl, rfl, rfl, by decide +kernel, tyX11_ok, nmX11⟩
theorem fp_10_3 : FP 10 3 11 true (.object "WeatherChess$Tape") := ⟨RX11, TX11, tyX11, rfl, rfl, rfl, by decide +kernel, tyX11_ok, nmX11⟩
theorem fp_10_4 : FP 10 4 11 true (.object "WeatherChess$Step") := ⟨RX11, TX11, tyX11, rfl, rfl, rfl, by decide +kernel, tyX11_ok, nmX11⟩
theorem fp_10_5 : FP 10 5 11 true (.object "WeatherChess$Rows") := ⟨RX11, TX11, tyX11, rfl, rfl, rfl, by decide +kernel, tyX11_ok, nmX11⟩
theorem fp_10_6 : FP 10 6 11 true (.object "WeatherChess$Blowing") := ⟨RX11, TX11, tyX11, rfl, rfl, rfl, by decide +kernel, tyX11_ok, nmX11⟩
theorem fp_10_7 : FP 10 7 11 true (.object "WeatherChess$Sheets") := ⟨RX11, TX11, tyX11, rfl, rfl, rfl, by decide +kernel, tyX11_ok, nmX11⟩
theorem fp_10_8 : FP 10 8 11 true (.object "WeatherChess$Stand") := ⟨RX11, TX11, tyX11, rfl, rfl, rfl, by decide +kernel, tyX11_ok, nmX11⟩
theorem fp_10_9 : FP 10 9 11 false .int := ⟨RX11, TX11, tyX11, rfl, rfl, rfl, by decide +kernel, tyX11_ok, nmX11⟩
theorem fp_10_10 : FP 10 10 11 false .int := ⟨RX11, TX11, tyX11, rfl, rfl, rfl, by decide +kernel, tyX11_ok, nmX11⟩
theorem fp_11_0 : FP 11 0 43 true (.array .int) := ⟨RX12, TX12, tyX12, rfl, rfl, rfl, by decide +kernel, tyX12_ok, nmX12⟩
theorem fp_11_1 : FP 11 1 43 true (.array .boolean) := ⟨RX12, TX12, tyX12, rfl, rfl, rfl, by decide +kernel, tyX12_ok, nmX12⟩
theorem fp_11_2 : FP 11 2 43 false .int := ⟨RX12, TX12, tyX12, rfl, rfl, rfl, by decide +kernel, tyX12_ok, nmX12⟩
theorem fp_11_3 : FP 11 3 43 false .int := ⟨RX12, TX12, tyX12, rfl, rfl, rfl, by decide +kernel, tyX12_ok, nmX12⟩
theorem fp_11_4 : FP 11 4 43 false .int := ⟨RX12, TX12, tyX12, rfl, rfl, rfl, by decide +kernel, tyX12_ok, nmX12⟩
theorem fp_11_5 : FP 11 5 43 true (.array .int) := ⟨RX12, TX12, tyX12, rfl, rfl, rfl, by decide +kernel, tyX12_ok, nmX12⟩
theorem fp_11_6 : FP 11 6 43 true (.array .int) := ⟨RX12, TX12, tyX12, rfl, rfl, rfl, by decide +kernel, tyX12_ok, nmX12⟩
theorem fp_11_7 : FP 11 7 43 true (.array .int) := ⟨RX12, TX12, tyX12, rfl, rfl, rfl, by decide +kernel, tyX12_ok, nmX12⟩
theorem fp_11_8 : FP 11 8 43 false .int := ⟨RX12, TX12, tyX12, rfl, rfl, rfl, by decide +kernel, tyX12_ok, nmX12⟩
theorem fp_11_9 : FP 11 9 43 false .int := ⟨RX12, TX12, tyX12, rfl, rfl, rfl, by decide +kernel, tyX12_ok, nmX12⟩
theorem fp_11_10 : FP 11 10 43 false .int := ⟨RX12, TX12, tyX12, rfl, rfl, rfl, by decide +kernel, tyX12_ok, nmX12⟩
theorem fp_11_11 : FP 11 11 43 true (.array .int) := ⟨RX12, TX12, tyX12, rfl, rfl, rfl, by decide +kernel, tyX12_ok, nmX12⟩
theorem fp_11_12 : FP 11 12 43 true (.array .int) := ⟨RX12, TX12, tyX12, rfl, rfl, rfl, by decide +kernel, tyX12_ok, nmX12⟩
theorem fp_11_13 : FP 11 13 43 false .int := ⟨RX12, TX12, tyX12, rfl, rfl, rfl, by decide +kernel, tyX12_ok, nmX12⟩
theorem fp_11_14 : FP 11 14 43 false .int := ⟨RX12, TX12, tyX12, rfl, rfl, rfl, by decide +kernel, tyX12_ok, nmX12⟩
theorem fp_11_15 : FP 11 15 43 true (.array .int) := ⟨RX12, TX12, tyX12, rfl, rfl, rfl, by decide +kernel, tyX12_ok, nmX12⟩
theorem fp_11_16 : FP 11 16 43 false .int := ⟨RX12, TX12, tyX12, rfl, rfl, rfl, by decide +kernel, tyX12_ok, nmX12⟩
theorem fp_11_17 : FP 11 17 43 false .int := ⟨RX12, TX12, tyX12, rfl, rfl, rfl, by decide +kernel, tyX12_ok, nmX12⟩
theorem fp_11_18 : FP 11 18 43 false .int := ⟨RX12, TX12, tyX12, rfl, rfl, rfl, by decide +kernel, tyX12_ok, nmX12⟩
theorem fp_11_19 : FP 11 19 43 false .int := ⟨RX12, TX12, tyX12, rfl, rfl, rfl, by decide +kernel, tyX12_ok, nmX12⟩
theorem fp_11_20 : FP 11 20 43 false .int := ⟨RX12, TX12, tyX12, rfl, rfl, rfl, by decide +kernel, tyX12_ok, nmX12⟩
theorem fp_11_21 : FP 11 21 43 false .int := ⟨RX12, TX12, tyX12, rfl, rfl, rfl, by decide +kernel, tyX12_ok, nmX12⟩
theorem fp_11_22 : FP 11 22 43 false .int := ⟨RX12, TX12, tyX12, rfl, rfl, rfl, by decide +kernel, tyX12_ok, nmX12⟩
theorem fp_11_23 : FP 11 23 43 true (.array .int) := ⟨RX12, TX12, tyX12, rfl, rfl, rfl, by decide +kernel, tyX12_ok, nmX12⟩
theorem fp_11_24 : FP 11 24 43 true (.array .int) := ⟨RX12, TX12, tyX12, rfl, rfl, rfl, by decide +kernel, tyX12_ok, nmX12⟩
theorem fp_11_25 : FP 11 25 43 false .int := ⟨RX12, TX12, tyX12, rfl, rfl, rfl, by decide +kernel, tyX12_ok, nmX12⟩
theorem fp_11_26 : FP 11 26 43 true (.array .int) := ⟨RX12, TX12, tyX12, rfl, rfl, rfl, by decide +kernel, tyX12_ok, nmX12⟩
theorem fp_11_27 : FP 11 27 43 true (.array .int) := ⟨RX12, TX12, tyX12, rfl, rfl, rfl, by decide +kernel, tyX12_ok, nmX12⟩
theorem fp_11_28 : FP 11 28 43 true (.array .int) := ⟨RX12, TX12, tyX12, rfl, rfl, rfl, by decide +kernel, tyX12_ok, nmX12⟩
theorem fp_11_29 : FP 11 29 43 false .int := ⟨RX12, TX12, tyX12, rfl, rfl, rfl, by decide +kernel, tyX12_ok, nmX12⟩
theorem fp_11_30 : FP 11 30 43 true (.array .int) := ⟨RX12, TX12, tyX12, rfl, rfl, rfl, by decide +kernel, tyX12_ok, nmX12⟩
theorem fp_11_31 : FP 11 31 43 true (.array .int) := ⟨RX12, TX12, tyX12, rfl, rfl, rfl, by decide +kernel, tyX12_ok, nmX12⟩
theorem fp_11_32 : FP 11 32 43 true (.array .int) := ⟨RX12, TX12, tyX12, rfl, rfl, rfl, by decide +kernel, tyX12_ok, nmX12⟩
theorem fp_11_33 : FP 11 33 43 true (.array .int) := ⟨RX12, TX12, tyX12, rfl, rfl, rfl, by decide +kernel, tyX12_ok, nmX12⟩
theorem fp_11_34 : FP 11 34 43 false .int := ⟨RX12, TX12, tyX12, rfl, rfl, rfl, by decide +kernel, tyX12_ok, nmX12⟩
theorem fp_11_35 : FP 11 35 43 false .int := ⟨RX12, TX12, tyX12, rfl, rfl, rfl, by decide +kernel, tyX12_ok, nmX12⟩
theorem fp_11_36 : FP 11 36 43 false .int := ⟨RX12, TX12, tyX12, rfl, rfl, rfl, by decide +kernel, tyX12_ok, nmX12⟩
theorem fp_11_37 : FP 11 37 43 false .boolean := ⟨RX12, TX12, tyX12, rfl, rfl, rfl, by decide +kernel, tyX12_ok, nmX12⟩
theorem fp_11_38 : FP 11 38 43 true (.array .int) := ⟨RX12, TX12, tyX12, rfl, rfl, rfl, by decide +kernel, tyX12_ok, nmX12⟩
theorem fp_11_39 : FP 11 39 43 true (.array .int) := ⟨RX12, TX12, tyX12, rfl, rfl, rfl, by decide +kernel, tyX12_ok, nmX12⟩
theorem fp_11_40 : FP 11 40 43 true (.array .int) := ⟨RX12, TX12, tyX12, rfl, rfl, rfl, by decide +kernel, tyX12_ok, nmX12⟩
theorem fp_11_41 : FP 11 41 43 false .int := ⟨RX12, TX12, tyX12, rfl, rfl, rfl, by decide +kernel, tyX12_ok, nmX12⟩
theorem fp_11_42 : FP 11 42 43 true (.array .int) := ⟨RX12, TX12, tyX12, rfl, rfl, rfl, by decide +kernel, tyX12_ok, nmX12⟩
set_option maxRecDepth 50000 in
theorem gk_RJ6_265 : Cond.constant RJ6 265 (1431655765) ∈ GW := GW_in 921 rfl rfl
set_option maxRecDepth 50000 in
theorem gk_RJ6_266 : Cond.constant RJ6 266 (858993459) ∈ GW := GW_in 922 rfl rfl
set_option maxRecDepth 50000 in
theorem gk_RJ6_267 : Cond.constant RJ6 267 (252645135) ∈ GW := GW_in 923 rfl rfl
set_option maxRecDepth 50000 in
theorem gk_RX6_64 : Cond.constant RX6 64 (33554432) ∈ GW := GW_in 934 rfl rfl
set_option maxRecDepth 50000 in
theorem gk_RX11_292 : Cond.constant RX11 292 (1103515245) ∈ GW := GW_in 1017 rfl rfl
set_option maxRecDepth 50000 in
theorem gk_RX12_324 : Cond.constant RX12 324 (33554432) ∈ GW := GW_in 1536 rfl rfl
set_option maxRecDepth 50000 in
theorem gk_RX12_342 : Cond.constant RX12 342 (1000000) ∈ GW := GW_in 1569 rfl rfl
set_option maxRecDepth 50000 in
theorem gk_RX12_348 : Cond.constant RX12 348 (1103515245) ∈ GW := GW_in 1579 rfl rfl
set_option maxRecDepth 50000 in
theorem gk_RX11_208 : Cond.constantLong RX11 208 (-1) ∈ GW := GW_in 836 rfl rfl
set_option maxRecDepth 50000 in
theorem gk_RX11_229 : Cond.constantLong RX11 229 (-2) ∈ GW := GW_in 872 rfl rfl
set_option maxRecDepth 50000 in
theorem gk_RX12_111 : Cond.constantLong RX12 111 (255) ∈ GW := GW_in 1253 rfl rfl
set_option maxRecDepth 50000 in
theorem gk_RX12_144 : Cond.constantLong RX12 144 (97) ∈ GW := GW_in 1273 rfl rfl
set_option maxRecDepth 50000 in
theorem gk_RX12_146 : Cond.constantLong RX12 146 (122) ∈ GW := GW_in 1274 rfl rfl
set_option maxRecDepth 50000 in
theorem gk_RX12_148 : Cond.constantLong RX12 148 (48) ∈ GW := GW_in 1275 rfl rfl
set_option maxRecDepth 50000 in
theorem gk_RX12_150 : Cond.constantLong RX12 150 (57) ∈ GW := GW_in 1276 rfl rfl
set_option maxRecDepth 50000 in
theorem gk_RX12_202 : Cond.constantLong RX12 202 (4) ∈ GW := GW_in 1379 rfl rfl
set_option maxRecDepth 50000 in
theorem gk_RX12_239 : Cond.constantLong RX12 239 (9) ∈ GW := GW_in 1384 rfl rfl
set_option maxRecDepth 50000 in
theorem gk_RX12_291 : Cond.constantLong RX12 291 (3) ∈ GW := GW_in 1449 rfl rfl
set_option maxRecDepth 50000 in
theorem gk_RX12_293 : Cond.constantLong RX12 293 (-1) ∈ GW := GW_in 1450 rfl rfl
set_option maxRecDepth 50000 in
theorem gk_RX12_302 : Cond.constantLong RX12 302 (-2) ∈ GW := GW_in 1501 rfl rfl
set_option maxRecDepth 50000 in
theorem gk_RX12_335 : Cond.constantLong RX12 335 (10) ∈ GW := GW_in 1518 rfl rfl
set_option maxRecDepth 50000 in
theorem gk_RX12_337 : Cond.constantLong RX12 337 (12) ∈ GW := GW_in 1519 rfl rfl
set_option maxRecDepth 50000 in
theorem gk_RX12_346 : Cond.constantLong RX12 346 (60) ∈ GW := GW_in 1578 rfl rfl
set_option maxRecDepth 50000 in
theorem gk_RX12_352 : Cond.constantLong RX12 352 (2) ∈ GW := GW_in 1599 rfl rfl
set_option maxRecDepth 50000 in
theorem gk_RX12_358 : Cond.constantLong RX12 358 (13) ∈ GW := GW_in 1608 rfl rfl
set_option maxRecDepth 50000 in
theorem gk_RL_13 : Cond.constantLong RL 13 (4294967295) ∈ GW := GW_in 1618 rfl rfl
