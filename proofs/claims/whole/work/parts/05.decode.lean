set_option maxRecDepth 100000 in
theorem zdX0_init : ∀ e ∈ zcX0_init, decode cX0_init e.1 = .ok (e.2.1, e.2.2) ∧ zgd e = true := by decide +kernel
set_option maxRecDepth 100000 in
theorem zwX0_init : zBG[109]? = some (.code yX0_init cX0_init 1 none) := by first | rfl | decide +kernel
set_option maxRecDepth 100000 in
theorem zdX0_dropped : ∀ e ∈ zcX0_dropped, decode cX0_dropped e.1 = .ok (e.2.1, e.2.2) ∧ zgd e = true := by decide +kernel
set_option maxRecDepth 100000 in
theorem zwX0_dropped : zBG[767]? = some (.code yX0_dropped cX0_dropped 1 (some .int)) := by first | rfl | decide +kernel
set_option maxRecDepth 100000 in
theorem zdX0_size : ∀ e ∈ zcX0_size, decode cX0_size e.1 = .ok (e.2.1, e.2.2) ∧ zgd e = true := by decide +kernel
set_option maxRecDepth 100000 in
theorem zwX0_size : zBG[931]? = some (.code yX0_size cX0_size 1 (some .int)) := by first | rfl | decide +kernel
set_option maxRecDepth 100000 in
theorem zdX0_add : ∀ e ∈ zcX0_add, decode cX0_add e.1 = .ok (e.2.1, e.2.2) ∧ zgd e = true := by decide +kernel
set_option maxRecDepth 100000 in
theorem zwX0_add : zBG[772]? = some (.code yX0_add cX0_add 1 none) := by first | rfl | decide +kernel
set_option maxRecDepth 100000 in
theorem zdX0_lay : ∀ e ∈ zcX0_lay, decode cX0_lay e.1 = .ok (e.2.1, e.2.2) ∧ zgd e = true := by decide +kernel
set_option maxRecDepth 100000 in
theorem zwX0_lay : zBG[791]? = some (.code yX0_lay cX0_lay 3 none) := by first | rfl | decide +kernel
set_option maxRecDepth 100000 in
theorem zdX0_isInside : ∀ e ∈ zcX0_isInside, decode cX0_isInside e.1 = .ok (e.2.1, e.2.2) ∧ zgd e = true := by decide +kernel
set_option maxRecDepth 100000 in
theorem zwX0_isInside : zBG[807]? = some (.code yX0_isInside cX0_isInside 2 (some .boolean)) := by first | rfl | decide +kernel
set_option maxRecDepth 100000 in
theorem zdX0_isCovered : ∀ e ∈ zcX0_isCovered, decode cX0_isCovered e.1 = .ok (e.2.1, e.2.2) ∧ zgd e = true := by decide +kernel
set_option maxRecDepth 100000 in
theorem zwX0_isCovered : zBG[811]? = some (.code yX0_isCovered cX0_isCovered 2 (some .boolean)) := by first | rfl | decide +kernel
set_option maxRecDepth 100000 in
theorem zdX0_remove : ∀ e ∈ zcX0_remove, decode cX0_remove e.1 = .ok (e.2.1, e.2.2) ∧ zgd e = true := by decide +kernel
set_option maxRecDepth 100000 in
theorem zwX0_remove : zBG[815]? = some (.code yX0_remove cX0_remove 2 none) := by first | rfl | decide +kernel
set_option maxRecDepth 100000 in
theorem zdX0_stuckBits : ∀ e ∈ zcX0_stuckBits, decode cX0_stuckBits e.1 = .ok (e.2.1, e.2.2) ∧ zgd e = true := by decide +kernel
set_option maxRecDepth 100000 in
theorem zwX0_stuckBits : zBG[827]? = some (.code yX0_stuckBits cX0_stuckBits 4 (some .int)) := by first | rfl | decide +kernel
set_option maxRecDepth 100000 in
theorem zdX0_withAllAbove : ∀ e ∈ zcX0_withAllAbove, decode cX0_withAllAbove e.1 = .ok (e.2.1, e.2.2) ∧ zgd e = true := by decide +kernel
set_option maxRecDepth 100000 in
theorem zwX0_withAllAbove : zBG[831]? = some (.code yX0_withAllAbove cX0_withAllAbove 5 (some .int)) := by first | rfl | decide +kernel
set_option maxRecDepth 100000 in
theorem zdX1_init : ∀ e ∈ zcX1_init, decode cX1_init e.1 = .ok (e.2.1, e.2.2) ∧ zgd e = true := by decide +kernel
set_option maxRecDepth 100000 in
theorem zwX1_init : zBG[104]? = some (.code yX1_init cX1_init 1 none) := by first | rfl | decide +kernel
set_option maxRecDepth 100000 in
theorem zdX1_size : ∀ e ∈ zcX1_size, decode cX1_size e.1 = .ok (e.2.1, e.2.2) ∧ zgd e = true := by decide +kernel
set_option maxRecDepth 100000 in
theorem zwX1_size : zBG[712]? = some (.code yX1_size cX1_size 1 (some .int)) := by first | rfl | decide +kernel
set_option maxRecDepth 100000 in
theorem zdX1_add : ∀ e ∈ zcX1_add, decode cX1_add e.1 = .ok (e.2.1, e.2.2) ∧ zgd e = true := by decide +kernel
set_option maxRecDepth 100000 in
theorem zwX1_add : zBG[717]? = some (.code yX1_add cX1_add 1 none) := by first | rfl | decide +kernel
set_option maxRecDepth 100000 in
theorem zdX1_join : ∀ e ∈ zcX1_join, decode cX1_join e.1 = .ok (e.2.1, e.2.2) ∧ zgd e = true := by decide +kernel
set_option maxRecDepth 100000 in
theorem zwX1_join : zBG[734]? = some (.code yX1_join cX1_join 4 none) := by first | rfl | decide +kernel
set_option maxRecDepth 100000 in
theorem zdX1_leastCost : ∀ e ∈ zcX1_leastCost, decode cX1_leastCost e.1 = .ok (e.2.1, e.2.2) ∧ zgd e = true := by decide +kernel
set_option maxRecDepth 100000 in
theorem zwX1_leastCost : zBG[750]? = some (.code yX1_leastCost cX1_leastCost 4 (some .int)) := by first | rfl | decide +kernel
set_option maxRecDepth 100000 in
theorem zdX1_goOneMoveFarther : ∀ e ∈ zcX1_goOneMoveFarther, decode cX1_goOneMoveFarther e.1 = .ok (e.2.1, e.2.2) ∧ zgd e = true := by decide +kernel
set_option maxRecDepth 100000 in
theorem zwX1_goOneMoveFarther : zBG[755]? = some (.code yX1_goOneMoveFarther cX1_goOneMoveFarther 5 none) := by first | rfl | decide +kernel
set_option maxRecDepth 100000 in
theorem zdX2_init : ∀ e ∈ zcX2_init, decode cX2_init e.1 = .ok (e.2.1, e.2.2) ∧ zgd e = true := by decide +kernel
set_option maxRecDepth 100000 in
theorem zwX2_init : zBG[82]? = some (.code yX2_init cX2_init 1 none) := by first | rfl | decide +kernel
set_option maxRecDepth 100000 in
theorem zdX2_size : ∀ e ∈ zcX2_size, decode cX2_size e.1 = .ok (e.2.1, e.2.2) ∧ zgd e = true := by decide +kernel
set_option maxRecDepth 100000 in
theorem zwX2_size : zBG[310]? = some (.code yX2_size cX2_size 1 (some .int)) := by first | rfl | decide +kernel
set_option maxRecDepth 100000 in
theorem zdX2_edge : ∀ e ∈ zcX2_edge, decode cX2_edge e.1 = .ok (e.2.1, e.2.2) ∧ zgd e = true := by decide +kernel
set_option maxRecDepth 100000 in
theorem zwX2_edge : zBG[376]? = some (.code yX2_edge cX2_edge 2 (some .int)) := by first | rfl | decide +kernel
set_option maxRecDepth 100000 in
theorem zdX2_eighth : ∀ e ∈ zcX2_eighth, decode cX2_eighth e.1 = .ok (e.2.1, e.2.2) ∧ zgd e = true := by decide +kernel
set_option maxRecDepth 100000 in
theorem zwX2_eighth : zBG[380]? = some (.code yX2_eighth cX2_eighth 2 (some .int)) := by first | rfl | decide +kernel
set_option maxRecDepth 100000 in
theorem zdX2_clear : ∀ e ∈ zcX2_clear, decode cX2_clear e.1 = .ok (e.2.1, e.2.2) ∧ zgd e = true := by decide +kernel
set_option maxRecDepth 100000 in
theorem zwX2_clear : zBG[191]? = some (.code yX2_clear cX2_clear 1 none) := by first | rfl | decide +kernel
set_option maxRecDepth 100000 in
theorem zdX2_add : ∀ e ∈ zcX2_add, decode cX2_add e.1 = .ok (e.2.1, e.2.2) ∧ zgd e = true := by decide +kernel
set_option maxRecDepth 100000 in
theorem zwX2_add : zBG[314]? = some (.code yX2_add cX2_add 3 none) := by first | rfl | decide +kernel
set_option maxRecDepth 100000 in
theorem zdX2_stand : ∀ e ∈ zcX2_stand, decode cX2_stand e.1 = .ok (e.2.1, e.2.2) ∧ zgd e = true := by decide +kernel
set_option maxRecDepth 100000 in
theorem zwX2_stand : zBG[318]? = some (.code yX2_stand cX2_stand 4 none) := by first | rfl | decide +kernel
set_option maxRecDepth 100000 in
theorem zdX2_become : ∀ e ∈ zcX2_become, decode cX2_become e.1 = .ok (e.2.1, e.2.2) ∧ zgd e = true := by decide +kernel
set_option maxRecDepth 100000 in
theorem zwX2_become : zBG[499]? = some (.code yX2_become cX2_become 3 none) := by first | rfl | decide +kernel
set_option maxRecDepth 100000 in
theorem zdX3_init : ∀ e ∈ zcX3_init, decode cX3_init e.1 = .ok (e.2.1, e.2.2) ∧ zgd e = true := by decide +kernel
set_option maxRecDepth 100000 in
theorem zwX3_init : zBG[48]? = some (.code yX3_init cX3_init 1 none) := by first | rfl | decide +kernel
set_option maxRecDepth 100000 in
theorem zdX3_setCorner : ∀ e ∈ zcX3_setCorner, decode cX3_setCorner e.1 = .ok (e.2.1, e.2.2) ∧ zgd e = true := by decide +kernel
set_option maxRecDepth 100000 in
theorem zwX3_setCorner : zBG[56]? = some (.code yX3_setCorner cX3_setCorner 4 none) := by first | rfl | decide +kernel
set_option maxRecDepth 100000 in
theorem zdX3_close : ∀ e ∈ zcX3_close, decode cX3_close e.1 = .ok (e.2.1, e.2.2) ∧ zgd e = true := by decide +kernel
set_option maxRecDepth 100000 in
theorem zwX3_close : zBG[62]? = some (.code yX3_close cX3_close 5 none) := by first | rfl | decide +kernel
set_option maxRecDepth 100000 in
theorem zdX3_corners : ∀ e ∈ zcX3_corners, decode cX3_corners e.1 = .ok (e.2.1, e.2.2) ∧ zgd e = true := by decide +kernel
set_option maxRecDepth 100000 in
theorem zwX3_corners : zBG[230]? = some (.code yX3_corners cX3_corners 1 (some .int)) := by first | rfl | decide +kernel
set_option maxRecDepth 100000 in
theorem zdX3_area : ∀ e ∈ zcX3_area, decode cX3_area e.1 = .ok (e.2.1, e.2.2) ∧ zgd e = true := by decide +kernel
set_option maxRecDepth 100000 in
theorem zwX3_area : zBG[201]? = some (.code yX3_area cX3_area 1 (some .int)) := by first | rfl | decide +kernel
set_option maxRecDepth 100000 in
theorem zdX3_momentX : ∀ e ∈ zcX3_momentX, decode cX3_momentX e.1 = .ok (e.2.1, e.2.2) ∧ zgd e = true := by decide +kernel
set_option maxRecDepth 100000 in
theorem zwX3_momentX : zBG[245]? = some (.code yX3_momentX cX3_momentX 1 (some .int)) := by first | rfl | decide +kernel
set_option maxRecDepth 100000 in
theorem zdX3_momentY : ∀ e ∈ zcX3_momentY, decode cX3_momentY e.1 = .ok (e.2.1, e.2.2) ∧ zgd e = true := by decide +kernel
set_option maxRecDepth 100000 in
theorem zwX3_momentY : zBG[249]? = some (.code yX3_momentY cX3_momentY 1 (some .int)) := by first | rfl | decide +kernel
set_option maxRecDepth 100000 in
theorem zdX3_x : ∀ e ∈ zcX3_x, decode cX3_x e.1 = .ok (e.2.1, e.2.2) ∧ zgd e = true := by decide +kernel
set_option maxRecDepth 100000 in
theorem zwX3_x : zBG[74]? = some (.code yX3_x cX3_x 2 (some .int)) := by first | rfl | decide +kernel
set_option maxRecDepth 100000 in
theorem zdX3_y : ∀ e ∈ zcX3_y, decode cX3_y e.1 = .ok (e.2.1, e.2.2) ∧ zgd e = true := by decide +kernel
set_option maxRecDepth 100000 in
theorem zwX3_y : zBG[80]? = some (.code yX3_y cX3_y 2 (some .int)) := by first | rfl | decide +kernel
set_option maxRecDepth 100000 in
theorem zdX3_next : ∀ e ∈ zcX3_next, decode cX3_next e.1 = .ok (e.2.1, e.2.2) ∧ zgd e = true := by decide +kernel
set_option maxRecDepth 100000 in
theorem zwX3_next : zBG[70]? = some (.code yX3_next cX3_next 2 (some .int)) := by first | rfl | decide +kernel
set_option maxRecDepth 100000 in
theorem zdX3_dx : ∀ e ∈ zcX3_dx, decode cX3_dx e.1 = .ok (e.2.1, e.2.2) ∧ zgd e = true := by decide +kernel
set_option maxRecDepth 100000 in
theorem zwX3_dx : zBG[384]? = some (.code yX3_dx cX3_dx 2 (some .int)) := by first | rfl | decide +kernel
set_option maxRecDepth 100000 in
theorem zdX3_dy : ∀ e ∈ zcX3_dy, decode cX3_dy e.1 = .ok (e.2.1, e.2.2) ∧ zgd e = true := by decide +kernel
set_option maxRecDepth 100000 in
theorem zwX3_dy : zBG[388]? = some (.code yX3_dy cX3_dy 2 (some .int)) := by first | rfl | decide +kernel
set_option maxRecDepth 100000 in
theorem zdX3_side : ∀ e ∈ zcX3_side, decode cX3_side e.1 = .ok (e.2.1, e.2.2) ∧ zgd e = true := by decide +kernel
set_option maxRecDepth 100000 in
theorem zwX3_side : zBG[285]? = some (.code yX3_side cX3_side 11 (some .int)) := by first | rfl | decide +kernel
set_option maxRecDepth 100000 in
theorem zdX3_pull : ∀ e ∈ zcX3_pull, decode cX3_pull e.1 = .ok (e.2.1, e.2.2) ∧ zgd e = true := by decide +kernel
set_option maxRecDepth 100000 in
theorem zwX3_pull : zBG[609]? = some (.code yX3_pull cX3_pull 8 (some .long)) := by first | rfl | decide +kernel
set_option maxRecDepth 100000 in
theorem zdX3_isSealed : ∀ e ∈ zcX3_isSealed, decode cX3_isSealed e.1 = .ok (e.2.1, e.2.2) ∧ zgd e = true := by decide +kernel
set_option maxRecDepth 100000 in
theorem zwX3_isSealed : zBG[615]? = some (.code yX3_isSealed cX3_isSealed 6 (some .boolean)) := by first | rfl | decide +kernel
set_option maxRecDepth 100000 in
theorem zdX3_leastSeal : ∀ e ∈ zcX3_leastSeal, decode cX3_leastSeal e.1 = .ok (e.2.1, e.2.2) ∧ zgd e = true := by decide +kernel
set_option maxRecDepth 100000 in
theorem zwX3_leastSeal : zBG[639]? = some (.code yX3_leastSeal cX3_leastSeal 7 (some .int)) := by first | rfl | decide +kernel
set_option maxRecDepth 100000 in
theorem zdX4_init : ∀ e ∈ zcX4_init, decode cX4_init e.1 = .ok (e.2.1, e.2.2) ∧ zgd e = true := by decide +kernel
set_option maxRecDepth 100000 in
theorem zwX4_init : zBG[99]? = some (.code yX4_init cX4_init 1 none) := by first | rfl | decide +kernel
set_option maxRecDepth 100000 in
theorem zdX4_size : ∀ e ∈ zcX4_size, decode cX4_size e.1 = .ok (e.2.1, e.2.2) ∧ zgd e = true := by decide +kernel
set_option maxRecDepth 100000 in
theorem zwX4_size : zBG[654]? = some (.code yX4_size cX4_size 1 (some .int)) := by first | rfl | decide +kernel
set_option maxRecDepth 100000 in
theorem zdX4_x : ∀ e ∈ zcX4_x, decode cX4_x e.1 = .ok (e.2.1, e.2.2) ∧ zgd e = true := by decide +kernel
set_option maxRecDepth 100000 in
theorem zwX4_x : zBG[684]? = some (.code yX4_x cX4_x 2 (some .int)) := by first | rfl | decide +kernel
set_option maxRecDepth 100000 in
theorem zdX4_y : ∀ e ∈ zcX4_y, decode cX4_y e.1 = .ok (e.2.1, e.2.2) ∧ zgd e = true := by decide +kernel
set_option maxRecDepth 100000 in
theorem zwX4_y : zBG[688]? = some (.code yX4_y cX4_y 2 (some .int)) := by first | rfl | decide +kernel
set_option maxRecDepth 100000 in
theorem zdX4_add : ∀ e ∈ zcX4_add, decode cX4_add e.1 = .ok (e.2.1, e.2.2) ∧ zgd e = true := by decide +kernel
set_option maxRecDepth 100000 in
theorem zwX4_add : zBG[659]? = some (.code yX4_add cX4_add 3 none) := by first | rfl | decide +kernel
set_option maxRecDepth 100000 in
theorem zdX5_init : ∀ e ∈ zcX5_init, decode cX5_init e.1 = .ok (e.2.1, e.2.2) ∧ zgd e = true := by decide +kernel
set_option maxRecDepth 100000 in
theorem zwX5_init : zBG[114]? = some (.code yX5_init cX5_init 2 none) := by first | rfl | decide +kernel
set_option maxRecDepth 100000 in
theorem zdX5_latestFinding : ∀ e ∈ zcX5_latestFinding, decode cX5_latestFinding e.1 = .ok (e.2.1, e.2.2) ∧ zgd e = true := by decide +kernel
set_option maxRecDepth 100000 in
theorem zwX5_latestFinding : zBG[927]? = some (.code yX5_latestFinding cX5_latestFinding 1 (some .int)) := by first | rfl | decide +kernel
set_option maxRecDepth 100000 in
theorem zdX5_find : ∀ e ∈ zcX5_find, decode cX5_find e.1 = .ok (e.2.1, e.2.2) ∧ zgd e = true := by decide +kernel
set_option maxRecDepth 100000 in
theorem zwX5_find : zBG[169]? = some (.code yX5_find cX5_find 2 (some .int)) := by first | rfl | decide +kernel
set_option maxRecDepth 100000 in
theorem zdX5_form : ∀ e ∈ zcX5_form, decode cX5_form e.1 = .ok (e.2.1, e.2.2) ∧ zgd e = true := by decide +kernel
set_option maxRecDepth 100000 in
theorem zwX5_form : zBG[165]? = some (.code yX5_form cX5_form 2 (some .int)) := by first | rfl | decide +kernel
set_option maxRecDepth 100000 in
theorem zdX5_length : ∀ e ∈ zcX5_length, decode cX5_length e.1 = .ok (e.2.1, e.2.2) ∧ zgd e = true := by decide +kernel
set_option maxRecDepth 100000 in
theorem zwX5_length : zBG[174]? = some (.code yX5_length cX5_length 2 (some .int)) := by first | rfl | decide +kernel
set_option maxRecDepth 100000 in
theorem zdX5_isLost : ∀ e ∈ zcX5_isLost, decode cX5_isLost e.1 = .ok (e.2.1, e.2.2) ∧ zgd e = true := by decide +kernel
set_option maxRecDepth 100000 in
theorem zwX5_isLost : zBG[161]? = some (.code yX5_isLost cX5_isLost 2 (some .boolean)) := by first | rfl | decide +kernel
set_option maxRecDepth 100000 in
theorem zdX5_forget : ∀ e ∈ zcX5_forget, decode cX5_forget e.1 = .ok (e.2.1, e.2.2) ∧ zgd e = true := by decide +kernel
set_option maxRecDepth 100000 in
theorem zwX5_forget : zBG[122]? = some (.code yX5_forget cX5_forget 2 none) := by first | rfl | decide +kernel
set_option maxRecDepth 100000 in
theorem zdX5_renew : ∀ e ∈ zcX5_renew, decode cX5_renew e.1 = .ok (e.2.1, e.2.2) ∧ zgd e = true := by decide +kernel
set_option maxRecDepth 100000 in
theorem zwX5_renew : zBG[862]? = some (.code yX5_renew cX5_renew 5 none) := by first | rfl | decide +kernel
set_option maxRecDepth 100000 in
theorem zdX5_value : ∀ e ∈ zcX5_value, decode cX5_value e.1 = .ok (e.2.1, e.2.2) ∧ zgd e = true := by decide +kernel
set_option maxRecDepth 100000 in
theorem zwX5_value : zBG[182]? = some (.code yX5_value cX5_value 3 (some .int)) := by first | rfl | decide +kernel
set_option maxRecDepth 100000 in
theorem zdX5_hasValue : ∀ e ∈ zcX5_hasValue, decode cX5_hasValue e.1 = .ok (e.2.1, e.2.2) ∧ zgd e = true := by decide +kernel
set_option maxRecDepth 100000 in
theorem zwX5_hasValue : zBG[678]? = some (.code yX5_hasValue cX5_hasValue 4 (some .boolean)) := by first | rfl | decide +kernel
set_option maxRecDepth 100000 in
theorem zdX5_write : ∀ e ∈ zcX5_write, decode cX5_write e.1 = .ok (e.2.1, e.2.2) ∧ zgd e = true := by decide +kernel
set_option maxRecDepth 100000 in
theorem zwX5_write : zBG[888]? = some (.code yX5_write cX5_write 5 none) := by first | rfl | decide +kernel
set_option maxRecDepth 100000 in
theorem zdX5_faultAt : ∀ e ∈ zcX5_faultAt, decode cX5_faultAt e.1 = .ok (e.2.1, e.2.2) ∧ zgd e = true := by decide +kernel
set_option maxRecDepth 100000 in
theorem zwX5_faultAt : zBG[883]? = some (.code yX5_faultAt cX5_faultAt 4 (some .int)) := by first | rfl | decide +kernel
set_option maxRecDepth 100000 in
theorem zdX5_hasRun : ∀ e ∈ zcX5_hasRun, decode cX5_hasRun e.1 = .ok (e.2.1, e.2.2) ∧ zgd e = true := by decide +kernel
set_option maxRecDepth 100000 in
theorem zwX5_hasRun : zBG[915]? = some (.code yX5_hasRun cX5_hasRun 4 (some .boolean)) := by first | rfl | decide +kernel
set_option maxRecDepth 100000 in
theorem zdX6_init : ∀ e ∈ zcX6_init, decode cX6_init e.1 = .ok (e.2.1, e.2.2) ∧ zgd e = true := by decide +kernel
set_option maxRecDepth 100000 in
theorem zwX6_init : zBG[93]? = some (.code yX6_init cX6_init 1 none) := by first | rfl | decide +kernel
set_option maxRecDepth 100000 in
theorem zdX6_size : ∀ e ∈ zcX6_size, decode cX6_size e.1 = .ok (e.2.1, e.2.2) ∧ zgd e = true := by decide +kernel
set_option maxRecDepth 100000 in
theorem zwX6_size : zBG[545]? = some (.code yX6_size cX6_size 1 (some .int)) := by first | rfl | decide +kernel
set_option maxRecDepth 100000 in
theorem zdX6_clear : ∀ e ∈ zcX6_clear, decode cX6_clear e.1 = .ok (e.2.1, e.2.2) ∧ zgd e = true := by decide +kernel
set_option maxRecDepth 100000 in
theorem zwX6_clear : zBG[196]? = some (.code yX6_clear cX6_clear 1 none) := by first | rfl | decide +kernel
set_option maxRecDepth 100000 in
theorem zdX6_add : ∀ e ∈ zcX6_add, decode cX6_add e.1 = .ok (e.2.1, e.2.2) ∧ zgd e = true := by decide +kernel
set_option maxRecDepth 100000 in
theorem zwX6_add : zBG[549]? = some (.code yX6_add cX6_add 4 none) := by first | rfl | decide +kernel
set_option maxRecDepth 100000 in
theorem zdX6_price : ∀ e ∈ zcX6_price, decode cX6_price e.1 = .ok (e.2.1, e.2.2) ∧ zgd e = true := by decide +kernel
set_option maxRecDepth 100000 in
theorem zwX6_price : zBG[565]? = some (.code yX6_price cX6_price 4 (some .int)) := by first | rfl | decide +kernel
set_option maxRecDepth 100000 in
theorem zdX6_isBetter : ∀ e ∈ zcX6_isBetter, decode cX6_isBetter e.1 = .ok (e.2.1, e.2.2) ∧ zgd e = true := by decide +kernel
set_option maxRecDepth 100000 in
theorem zwX6_isBetter : zBG[561]? = some (.code yX6_isBetter cX6_isBetter 4 (some .boolean)) := by first | rfl | decide +kernel
set_option maxRecDepth 100000 in
theorem zdX6_layOut : ∀ e ∈ zcX6_layOut, decode cX6_layOut e.1 = .ok (e.2.1, e.2.2) ∧ zgd e = true := by decide +kernel
set_option maxRecDepth 100000 in
theorem zwX6_layOut : zBG[576]? = some (.code yX6_layOut cX6_layOut 4 none) := by first | rfl | decide +kernel
set_option maxRecDepth 100000 in
theorem zdX7_init : ∀ e ∈ zcX7_init, decode cX7_init e.1 = .ok (e.2.1, e.2.2) ∧ zgd e = true := by decide +kernel
set_option maxRecDepth 100000 in
theorem zwX7_init : zBG[87]? = some (.code yX7_init cX7_init 1 none) := by first | rfl | decide +kernel
set_option maxRecDepth 100000 in
theorem zdX7_size : ∀ e ∈ zcX7_size, decode cX7_size e.1 = .ok (e.2.1, e.2.2) ∧ zgd e = true := by decide +kernel
set_option maxRecDepth 100000 in
theorem zwX7_size : zBG[398]? = some (.code yX7_size cX7_size 1 (some .int)) := by first | rfl | decide +kernel
set_option maxRecDepth 100000 in
theorem zdX7_part : ∀ e ∈ zcX7_part, decode cX7_part e.1 = .ok (e.2.1, e.2.2) ∧ zgd e = true := by decide +kernel
set_option maxRecDepth 100000 in
theorem zwX7_part : zBG[409]? = some (.code yX7_part cX7_part 3 (some .int)) := by first | rfl | decide +kernel
set_option maxRecDepth 100000 in
theorem zdX7_press : ∀ e ∈ zcX7_press, decode cX7_press e.1 = .ok (e.2.1, e.2.2) ∧ zgd e = true := by decide +kernel
set_option maxRecDepth 100000 in
theorem zwX7_press : zBG[370]? = some (.code yX7_press cX7_press 11 none) := by first | rfl | decide +kernel
set_option maxRecDepth 100000 in
theorem zdX7_add : ∀ e ∈ zcX7_add, decode cX7_add e.1 = .ok (e.2.1, e.2.2) ∧ zgd e = true := by decide +kernel
set_option maxRecDepth 100000 in
theorem zwX7_add : zBG[394]? = some (.code yX7_add cX7_add 5 none) := by first | rfl | decide +kernel
set_option maxRecDepth 100000 in
theorem zdX7_spread : ∀ e ∈ zcX7_spread, decode cX7_spread e.1 = .ok (e.2.1, e.2.2) ∧ zgd e = true := by decide +kernel
set_option maxRecDepth 100000 in
theorem zwX7_spread : zBG[443]? = some (.code yX7_spread cX7_spread 5 (some .int)) := by first | rfl | decide +kernel
set_option maxRecDepth 100000 in
theorem zdX7_turnIfBelow : ∀ e ∈ zcX7_turnIfBelow, decode cX7_turnIfBelow e.1 = .ok (e.2.1, e.2.2) ∧ zgd e = true := by decide +kernel
set_option maxRecDepth 100000 in
theorem zwX7_turnIfBelow : zBG[458]? = some (.code yX7_turnIfBelow cX7_turnIfBelow 2 none) := by first | rfl | decide +kernel
set_option maxRecDepth 100000 in
theorem zdX7_normal : ∀ e ∈ zcX7_normal, decode cX7_normal e.1 = .ok (e.2.1, e.2.2) ∧ zgd e = true := by decide +kernel
set_option maxRecDepth 100000 in
theorem zwX7_normal : zBG[487]? = some (.code yX7_normal cX7_normal 2 (some .long)) := by first | rfl | decide +kernel
set_option maxRecDepth 100000 in
theorem zdX7_cross : ∀ e ∈ zcX7_cross, decode cX7_cross e.1 = .ok (e.2.1, e.2.2) ∧ zgd e = true := by decide +kernel
set_option maxRecDepth 100000 in
theorem zwX7_cross : zBG[447]? = some (.code yX7_cross cX7_cross 15 (some .boolean)) := by first | rfl | decide +kernel
set_option maxRecDepth 100000 in
theorem zdX7_signs : ∀ e ∈ zcX7_signs, decode cX7_signs e.1 = .ok (e.2.1, e.2.2) ∧ zgd e = true := by decide +kernel
set_option maxRecDepth 100000 in
theorem zwX7_signs : zBG[454]? = some (.code yX7_signs cX7_signs 5 (some .int)) := by first | rfl | decide +kernel
set_option maxRecDepth 100000 in
theorem zdX8_init : ∀ e ∈ zcX8_init, decode cX8_init e.1 = .ok (e.2.1, e.2.2) ∧ zgd e = true := by decide +kernel
set_option maxRecDepth 100000 in
theorem zwX8_init : zBG[8]? = some (.code yX8_init cX8_init 1 none) := by first | rfl | decide +kernel
set_option maxRecDepth 100000 in
theorem zdX8_shape : ∀ e ∈ zcX8_shape, decode cX8_shape e.1 = .ok (e.2.1, e.2.2) ∧ zgd e = true := by decide +kernel
set_option maxRecDepth 100000 in
theorem zwX8_shape : zBG[154]? = some (.code yX8_shape cX8_shape 4 (some .int)) := by first | rfl | decide +kernel
set_option maxRecDepth 100000 in
theorem zdX8_isShape : ∀ e ∈ zcX8_isShape, decode cX8_isShape e.1 = .ok (e.2.1, e.2.2) ∧ zgd e = true := by decide +kernel
set_option maxRecDepth 100000 in
theorem zwX8_isShape : zBG[178]? = some (.code yX8_isShape cX8_isShape 6 (some .boolean)) := by first | rfl | decide +kernel
set_option maxRecDepth 100000 in
theorem zdX8_corner : ∀ e ∈ zcX8_corner, decode cX8_corner e.1 = .ok (e.2.1, e.2.2) ∧ zgd e = true := by decide +kernel
set_option maxRecDepth 100000 in
theorem zwX8_corner : zBG[226]? = some (.code yX8_corner cX8_corner 3 (some .int)) := by first | rfl | decide +kernel
set_option maxRecDepth 100000 in
theorem zdX8_middle : ∀ e ∈ zcX8_middle, decode cX8_middle e.1 = .ok (e.2.1, e.2.2) ∧ zgd e = true := by decide +kernel
set_option maxRecDepth 100000 in
theorem zwX8_middle : zBG[240]? = some (.code yX8_middle cX8_middle 2 (some .int)) := by first | rfl | decide +kernel
set_option maxRecDepth 100000 in
theorem zdX8_isIn : ∀ e ∈ zcX8_isIn, decode cX8_isIn e.1 = .ok (e.2.1, e.2.2) ∧ zgd e = true := by decide +kernel
set_option maxRecDepth 100000 in
theorem zwX8_isIn : zBG[278]? = some (.code yX8_isIn cX8_isIn 3 (some .int)) := by first | rfl | decide +kernel
set_option maxRecDepth 100000 in
theorem zdX8_finger : ∀ e ∈ zcX8_finger, decode cX8_finger e.1 = .ok (e.2.1, e.2.2) ∧ zgd e = true := by decide +kernel
set_option maxRecDepth 100000 in
theorem zwX8_finger : zBG[302]? = some (.code yX8_finger cX8_finger 3 (some .int)) := by first | rfl | decide +kernel
set_option maxRecDepth 100000 in
theorem zdX8_move : ∀ e ∈ zcX8_move, decode cX8_move e.1 = .ok (e.2.1, e.2.2) ∧ zgd e = true := by decide +kernel
set_option maxRecDepth 100000 in
theorem zwX8_move : zBG[331]? = some (.code yX8_move cX8_move 4 (some .int)) := by first | rfl | decide +kernel
set_option maxRecDepth 100000 in
theorem zdX8_release : ∀ e ∈ zcX8_release, decode cX8_release e.1 = .ok (e.2.1, e.2.2) ∧ zgd e = true := by decide +kernel
set_option maxRecDepth 100000 in
theorem zwX8_release : zBG[348]? = some (.code yX8_release cX8_release 2 (some .int)) := by first | rfl | decide +kernel
set_option maxRecDepth 100000 in
theorem zdX8_friction : ∀ e ∈ zcX8_friction, decode cX8_friction e.1 = .ok (e.2.1, e.2.2) ∧ zgd e = true := by decide +kernel
set_option maxRecDepth 100000 in
theorem zwX8_friction : zBG[356]? = some (.code yX8_friction cX8_friction 3 (some .int)) := by first | rfl | decide +kernel
set_option maxRecDepth 100000 in
theorem zdX8_push : ∀ e ∈ zcX8_push, decode cX8_push e.1 = .ok (e.2.1, e.2.2) ∧ zgd e = true := by decide +kernel
set_option maxRecDepth 100000 in
theorem zwX8_push : zBG[366]? = some (.code yX8_push cX8_push 3 (some .long)) := by first | rfl | decide +kernel
set_option maxRecDepth 100000 in
theorem zdX8_holds : ∀ e ∈ zcX8_holds, decode cX8_holds e.1 = .ok (e.2.1, e.2.2) ∧ zgd e = true := by decide +kernel
set_option maxRecDepth 100000 in
theorem zwX8_holds : zBG[435]? = some (.code yX8_holds cX8_holds 1 (some .int)) := by first | rfl | decide +kernel
set_option maxRecDepth 100000 in
theorem zdX8_witness : ∀ e ∈ zcX8_witness, decode cX8_witness e.1 = .ok (e.2.1, e.2.2) ∧ zgd e = true := by decide +kernel
set_option maxRecDepth 100000 in
theorem zwX8_witness : zBG[483]? = some (.code yX8_witness cX8_witness 2 (some .long)) := by first | rfl | decide +kernel
set_option maxRecDepth 100000 in
theorem zdX8_free : ∀ e ∈ zcX8_free, decode cX8_free e.1 = .ok (e.2.1, e.2.2) ∧ zgd e = true := by decide +kernel
set_option maxRecDepth 100000 in
theorem zwX8_free : zBG[495]? = some (.code yX8_free cX8_free 4 (some .int)) := by first | rfl | decide +kernel
set_option maxRecDepth 100000 in
theorem zdX8_slip : ∀ e ∈ zcX8_slip, decode cX8_slip e.1 = .ok (e.2.1, e.2.2) ∧ zgd e = true := by decide +kernel
set_option maxRecDepth 100000 in
theorem zwX8_slip : zBG[513]? = some (.code yX8_slip cX8_slip 2 (some .int)) := by first | rfl | decide +kernel
set_option maxRecDepth 100000 in
theorem zdX8_isHeldWithin : ∀ e ∈ zcX8_isHeldWithin, decode cX8_isHeldWithin e.1 = .ok (e.2.1, e.2.2) ∧ zgd e = true := by decide +kernel
set_option maxRecDepth 100000 in
theorem zwX8_isHeldWithin : zBG[517]? = some (.code yX8_isHeldWithin cX8_isHeldWithin 4 (some .boolean)) := by first | rfl | decide +kernel
set_option maxRecDepth 100000 in
theorem zdX8_slide : ∀ e ∈ zcX8_slide, decode cX8_slide e.1 = .ok (e.2.1, e.2.2) ∧ zgd e = true := by decide +kernel
set_option maxRecDepth 100000 in
theorem zwX8_slide : zBG[521]? = some (.code yX8_slide cX8_slide 7 (some .boolean)) := by first | rfl | decide +kernel
set_option maxRecDepth 100000 in
theorem zdX8_isHeldBy : ∀ e ∈ zcX8_isHeldBy, decode cX8_isHeldBy e.1 = .ok (e.2.1, e.2.2) ∧ zgd e = true := by decide +kernel
set_option maxRecDepth 100000 in
theorem zwX8_isHeldBy : zBG[439]? = some (.code yX8_isHeldBy cX8_isHeldBy 2 (some .boolean)) := by first | rfl | decide +kernel
set_option maxRecDepth 100000 in
theorem zdX8_spot : ∀ e ∈ zcX8_spot, decode cX8_spot e.1 = .ok (e.2.1, e.2.2) ∧ zgd e = true := by decide +kernel
set_option maxRecDepth 100000 in
theorem zwX8_spot : zBG[541]? = some (.code yX8_spot cX8_spot 4 (some .int)) := by first | rfl | decide +kernel
set_option maxRecDepth 100000 in
theorem zdX8_cheapest : ∀ e ∈ zcX8_cheapest, decode cX8_cheapest e.1 = .ok (e.2.1, e.2.2) ∧ zgd e = true := by decide +kernel
set_option maxRecDepth 100000 in
theorem zwX8_cheapest : zBG[557]? = some (.code yX8_cheapest cX8_cheapest 3 (some .int)) := by first | rfl | decide +kernel
set_option maxRecDepth 100000 in
theorem zdX8_take : ∀ e ∈ zcX8_take, decode cX8_take e.1 = .ok (e.2.1, e.2.2) ∧ zgd e = true := by decide +kernel
set_option maxRecDepth 100000 in
theorem zwX8_take : zBG[590]? = some (.code yX8_take cX8_take 2 (some .int)) := by first | rfl | decide +kernel
set_option maxRecDepth 100000 in
theorem zdX8_lifts : ∀ e ∈ zcX8_lifts, decode cX8_lifts e.1 = .ok (e.2.1, e.2.2) ∧ zgd e = true := by decide +kernel
set_option maxRecDepth 100000 in
theorem zwX8_lifts : zBG[601]? = some (.code yX8_lifts cX8_lifts 5 (some .int)) := by first | rfl | decide +kernel
set_option maxRecDepth 100000 in
theorem zdX8_seal : ∀ e ∈ zcX8_seal, decode cX8_seal e.1 = .ok (e.2.1, e.2.2) ∧ zgd e = true := by decide +kernel
set_option maxRecDepth 100000 in
theorem zwX8_seal : zBG[635]? = some (.code yX8_seal cX8_seal 4 (some .int)) := by first | rfl | decide +kernel
set_option maxRecDepth 100000 in
theorem zdX8_probe : ∀ e ∈ zcX8_probe, decode cX8_probe e.1 = .ok (e.2.1, e.2.2) ∧ zgd e = true := by decide +kernel
set_option maxRecDepth 100000 in
theorem zwX8_probe : zBG[650]? = some (.code yX8_probe cX8_probe 3 (some .int)) := by first | rfl | decide +kernel
set_option maxRecDepth 100000 in
theorem zdX8_poses : ∀ e ∈ zcX8_poses, decode cX8_poses e.1 = .ok (e.2.1, e.2.2) ∧ zgd e = true := by decide +kernel
set_option maxRecDepth 100000 in
theorem zwX8_poses : zBG[670]? = some (.code yX8_poses cX8_poses 4 (some .int)) := by first | rfl | decide +kernel
set_option maxRecDepth 100000 in
theorem zdX8_pose : ∀ e ∈ zcX8_pose, decode cX8_pose e.1 = .ok (e.2.1, e.2.2) ∧ zgd e = true := by decide +kernel
set_option maxRecDepth 100000 in
theorem zwX8_pose : zBG[700]? = some (.code yX8_pose cX8_pose 5 (some .int)) := by first | rfl | decide +kernel
set_option maxRecDepth 100000 in
theorem zdX8_fits : ∀ e ∈ zcX8_fits, decode cX8_fits e.1 = .ok (e.2.1, e.2.2) ∧ zgd e = true := by decide +kernel
set_option maxRecDepth 100000 in
theorem zwX8_fits : zBG[674]? = some (.code yX8_fits cX8_fits 7 (some .boolean)) := by first | rfl | decide +kernel
set_option maxRecDepth 100000 in
theorem zdX8_grip : ∀ e ∈ zcX8_grip, decode cX8_grip e.1 = .ok (e.2.1, e.2.2) ∧ zgd e = true := by decide +kernel
set_option maxRecDepth 100000 in
theorem zwX8_grip : zBG[708]? = some (.code yX8_grip cX8_grip 1 (some .int)) := by first | rfl | decide +kernel
set_option maxRecDepth 100000 in
theorem zdX8_link : ∀ e ∈ zcX8_link, decode cX8_link e.1 = .ok (e.2.1, e.2.2) ∧ zgd e = true := by decide +kernel
set_option maxRecDepth 100000 in
theorem zwX8_link : zBG[726]? = some (.code yX8_link cX8_link 4 (some .int)) := by first | rfl | decide +kernel
set_option maxRecDepth 100000 in
theorem zdX8_way : ∀ e ∈ zcX8_way, decode cX8_way e.1 = .ok (e.2.1, e.2.2) ∧ zgd e = true := by decide +kernel
set_option maxRecDepth 100000 in
theorem zwX8_way : zBG[746]? = some (.code yX8_way cX8_way 3 (some .int)) := by first | rfl | decide +kernel
set_option maxRecDepth 100000 in
theorem zdX8_drop : ∀ e ∈ zcX8_drop, decode cX8_drop e.1 = .ok (e.2.1, e.2.2) ∧ zgd e = true := by decide +kernel
set_option maxRecDepth 100000 in
theorem zwX8_drop : zBG[763]? = some (.code yX8_drop cX8_drop 1 (some .int)) := by first | rfl | decide +kernel
set_option maxRecDepth 100000 in
theorem zdX8_on : ∀ e ∈ zcX8_on, decode cX8_on e.1 = .ok (e.2.1, e.2.2) ∧ zgd e = true := by decide +kernel
set_option maxRecDepth 100000 in
theorem zwX8_on : zBG[783]? = some (.code yX8_on cX8_on 3 (some .int)) := by first | rfl | decide +kernel
set_option maxRecDepth 100000 in
theorem zdX8_pick : ∀ e ∈ zcX8_pick, decode cX8_pick e.1 = .ok (e.2.1, e.2.2) ∧ zgd e = true := by decide +kernel
set_option maxRecDepth 100000 in
theorem zwX8_pick : zBG[803]? = some (.code yX8_pick cX8_pick 2 (some .int)) := by first | rfl | decide +kernel
set_option maxRecDepth 100000 in
theorem zdX8_reach : ∀ e ∈ zcX8_reach, decode cX8_reach e.1 = .ok (e.2.1, e.2.2) ∧ zgd e = true := by decide +kernel
set_option maxRecDepth 100000 in
theorem zwX8_reach : zBG[823]? = some (.code yX8_reach cX8_reach 2 (some .int)) := by first | rfl | decide +kernel
set_option maxRecDepth 100000 in
theorem zdX8_stuck : ∀ e ∈ zcX8_stuck, decode cX8_stuck e.1 = .ok (e.2.1, e.2.2) ∧ zgd e = true := by decide +kernel
set_option maxRecDepth 100000 in
theorem zwX8_stuck : zBG[847]? = some (.code yX8_stuck cX8_stuck 1 (some .int)) := by first | rfl | decide +kernel
set_option maxRecDepth 100000 in
theorem zdX8_sheet : ∀ e ∈ zcX8_sheet, decode cX8_sheet e.1 = .ok (e.2.1, e.2.2) ∧ zgd e = true := by decide +kernel
set_option maxRecDepth 100000 in
theorem zwX8_sheet : zBG[855]? = some (.code yX8_sheet cX8_sheet 4 (some .int)) := by first | rfl | decide +kernel
set_option maxRecDepth 100000 in
theorem zdX8_lose : ∀ e ∈ zcX8_lose, decode cX8_lose e.1 = .ok (e.2.1, e.2.2) ∧ zgd e = true := by decide +kernel
set_option maxRecDepth 100000 in
theorem zwX8_lose : zBG[870]? = some (.code yX8_lose cX8_lose 3 (some .int)) := by first | rfl | decide +kernel
set_option maxRecDepth 100000 in
theorem zdX8_put : ∀ e ∈ zcX8_put, decode cX8_put e.1 = .ok (e.2.1, e.2.2) ∧ zgd e = true := by decide +kernel
set_option maxRecDepth 100000 in
theorem zwX8_put : zBG[879]? = some (.code yX8_put cX8_put 6 (some .int)) := by first | rfl | decide +kernel
set_option maxRecDepth 100000 in
theorem zdX8_get : ∀ e ∈ zcX8_get, decode cX8_get e.1 = .ok (e.2.1, e.2.2) ∧ zgd e = true := by decide +kernel
set_option maxRecDepth 100000 in
theorem zwX8_get : zBG[900]? = some (.code yX8_get cX8_get 5 (some .int)) := by first | rfl | decide +kernel
set_option maxRecDepth 100000 in
theorem zdX8_copy : ∀ e ∈ zcX8_copy, decode cX8_copy e.1 = .ok (e.2.1, e.2.2) ∧ zgd e = true := by decide +kernel
set_option maxRecDepth 100000 in
theorem zwX8_copy : zBG[910]? = some (.code yX8_copy cX8_copy 8 (some .int)) := by first | rfl | decide +kernel
set_option maxRecDepth 100000 in
theorem zdX8_count : ∀ e ∈ zcX8_count, decode cX8_count e.1 = .ok (e.2.1, e.2.2) ∧ zgd e = true := by decide +kernel
set_option maxRecDepth 100000 in
theorem zwX8_count : zBG[923]? = some (.code yX8_count cX8_count 2 (some .int)) := by first | rfl | decide +kernel
set_option maxRecDepth 100000 in
theorem zdX8_digest : ∀ e ∈ zcX8_digest, decode cX8_digest e.1 = .ok (e.2.1, e.2.2) ∧ zgd e = true := by decide +kernel
set_option maxRecDepth 100000 in
theorem zwX8_digest : zBG[940]? = some (.code yX8_digest cX8_digest 5 (some .long)) := by first | rfl | decide +kernel
set_option maxRecDepth 100000 in
theorem zdX8_refusal : ∀ e ∈ zcX8_refusal, decode cX8_refusal e.1 = .ok (e.2.1, e.2.2) ∧ zgd e = true := by decide +kernel
set_option maxRecDepth 100000 in
theorem zwX8_refusal : zBG[404]? = some (.code yX8_refusal cX8_refusal 1 (some .long)) := by first | rfl | decide +kernel
set_option maxRecDepth 100000 in
theorem zdX8_isWithin : ∀ e ∈ zcX8_isWithin, decode cX8_isWithin e.1 = .ok (e.2.1, e.2.2) ∧ zgd e = true := by decide +kernel
set_option maxRecDepth 100000 in
theorem zwX8_isWithin : zBG[185]? = some (.code yX8_isWithin cX8_isWithin 2 (some .boolean)) := by first | rfl | decide +kernel
set_option maxRecDepth 100000 in
theorem zdX8_isPlace : ∀ e ∈ zcX8_isPlace, decode cX8_isPlace e.1 = .ok (e.2.1, e.2.2) ∧ zgd e = true := by decide +kernel
set_option maxRecDepth 100000 in
theorem zwX8_isPlace : zBG[281]? = some (.code yX8_isPlace cX8_isPlace 2 (some .boolean)) := by first | rfl | decide +kernel
set_option maxRecDepth 100000 in
theorem zdX8_isWeight : ∀ e ∈ zcX8_isWeight, decode cX8_isWeight e.1 = .ok (e.2.1, e.2.2) ∧ zgd e = true := by decide +kernel
set_option maxRecDepth 100000 in
theorem zwX8_isWeight : zBG[605]? = some (.code yX8_isWeight cX8_isWeight 1 (some .boolean)) := by first | rfl | decide +kernel
set_option maxRecDepth 100000 in
theorem zdX8_isTriplePart : ∀ e ∈ zcX8_isTriplePart, decode cX8_isTriplePart e.1 = .ok (e.2.1, e.2.2) ∧ zgd e = true := by decide +kernel
set_option maxRecDepth 100000 in
theorem zwX8_isTriplePart : zBG[401]? = some (.code yX8_isTriplePart cX8_isTriplePart 1 (some .boolean)) := by first | rfl | decide +kernel
set_option maxRecDepth 100000 in
theorem zdX8_isSheet : ∀ e ∈ zcX8_isSheet, decode cX8_isSheet e.1 = .ok (e.2.1, e.2.2) ∧ zgd e = true := by decide +kernel
set_option maxRecDepth 100000 in
theorem zwX8_isSheet : zBG[157]? = some (.code yX8_isSheet cX8_isSheet 1 (some .boolean)) := by first | rfl | decide +kernel
set_option maxRecDepth 100000 in
theorem zdX8_isForm : ∀ e ∈ zcX8_isForm, decode cX8_isForm e.1 = .ok (e.2.1, e.2.2) ∧ zgd e = true := by decide +kernel
set_option maxRecDepth 100000 in
theorem zwX8_isForm : zBG[858]? = some (.code yX8_isForm cX8_isForm 1 (some .boolean)) := by first | rfl | decide +kernel
set_option maxRecDepth 100000 in
theorem zdX8_isStand : ∀ e ∈ zcX8_isStand, decode cX8_isStand e.1 = .ok (e.2.1, e.2.2) ∧ zgd e = true := by decide +kernel
set_option maxRecDepth 100000 in
theorem zwX8_isStand : zBG[306]? = some (.code yX8_isStand cX8_isStand 3 (some .boolean)) := by first | rfl | decide +kernel
set_option maxRecDepth 100000 in
theorem zdX8_isFinger : ∀ e ∈ zcX8_isFinger, decode cX8_isFinger e.1 = .ok (e.2.1, e.2.2) ∧ zgd e = true := by decide +kernel
set_option maxRecDepth 100000 in
theorem zwX8_isFinger : zBG[335]? = some (.code yX8_isFinger cX8_isFinger 2 (some .boolean)) := by first | rfl | decide +kernel
set_option maxRecDepth 100000 in
theorem zdX8_isGrip : ∀ e ∈ zcX8_isGrip, decode cX8_isGrip e.1 = .ok (e.2.1, e.2.2) ∧ zgd e = true := by decide +kernel
set_option maxRecDepth 100000 in
theorem zwX8_isGrip : zBG[730]? = some (.code yX8_isGrip cX8_isGrip 2 (some .boolean)) := by first | rfl | decide +kernel
set_option maxRecDepth 100000 in
theorem zdX8_isDropped : ∀ e ∈ zcX8_isDropped, decode cX8_isDropped e.1 = .ok (e.2.1, e.2.2) ∧ zgd e = true := by decide +kernel
set_option maxRecDepth 100000 in
theorem zwX8_isDropped : zBG[787]? = some (.code yX8_isDropped cX8_isDropped 2 (some .boolean)) := by first | rfl | decide +kernel
set_option maxRecDepth 100000 in
theorem zdX8_item : ∀ e ∈ zcX8_item, decode cX8_item e.1 = .ok (e.2.1, e.2.2) ∧ zgd e = true := by decide +kernel
set_option maxRecDepth 100000 in
theorem zwX8_item : zBG[76]? = some (.code yX8_item cX8_item 2 (some .int)) := by first | rfl | decide +kernel
set_option maxRecDepth 100000 in
theorem zdX8_setItem : ∀ e ∈ zcX8_setItem, decode cX8_setItem e.1 = .ok (e.2.1, e.2.2) ∧ zgd e = true := by decide +kernel
set_option maxRecDepth 100000 in
theorem zwX8_setItem : zBG[58]? = some (.code yX8_setItem cX8_setItem 3 none) := by first | rfl | decide +kernel
set_option maxRecDepth 100000 in
theorem zdX9_init : ∀ e ∈ zcX9_init, decode cX9_init e.1 = .ok (e.2.1, e.2.2) ∧ zgd e = true := by decide +kernel
set_option maxRecDepth 100000 in
theorem zwX9_init : zBG[125]? = some (.code yX9_init cX9_init 2 none) := by first | rfl | decide +kernel
set_option maxRecDepth 100000 in
theorem zdX9_in : ∀ e ∈ zcX9_in, decode cX9_in e.1 = .ok (e.2.1, e.2.2) ∧ zgd e = true := by decide +kernel
set_option maxRecDepth 100000 in
theorem zwX9_in : zBG[217]? = some (.code yX9_in cX9_in 6 (some .boolean)) := by first | rfl | decide +kernel
set_option maxRecDepth 100000 in
theorem zdX9_no : ∀ e ∈ zcX9_no, decode cX9_no e.1 = .ok (e.2.1, e.2.2) ∧ zgd e = true := by decide +kernel
set_option maxRecDepth 100000 in
theorem zwX9_no : zBG[430]? = some (.code yX9_no cX9_no 1 (some .long)) := by first | rfl | decide +kernel
set_option maxRecDepth 100000 in
theorem zdX9_next : ∀ e ∈ zcX9_next, decode cX9_next e.1 = .ok (e.2.1, e.2.2) ∧ zgd e = true := by decide +kernel
set_option maxRecDepth 100000 in
theorem zwX9_next : zBG[266]? = some (.code yX9_next cX9_next 2 (some .int)) := by first | rfl | decide +kernel
set_option maxRecDepth 100000 in
theorem zdX9_cross : ∀ e ∈ zcX9_cross, decode cX9_cross e.1 = .ok (e.2.1, e.2.2) ∧ zgd e = true := by decide +kernel
set_option maxRecDepth 100000 in
theorem zwX9_cross : zBG[262]? = some (.code yX9_cross cX9_cross 2 (some .int)) := by first | rfl | decide +kernel
set_option maxRecDepth 100000 in
theorem zdX9_area : ∀ e ∈ zcX9_area, decode cX9_area e.1 = .ok (e.2.1, e.2.2) ∧ zgd e = true := by decide +kernel
set_option maxRecDepth 100000 in
theorem zwX9_area : zBG[258]? = some (.code yX9_area cX9_area 3 (some .int)) := by first | rfl | decide +kernel
set_option maxRecDepth 100000 in
theorem zdX9_middleX : ∀ e ∈ zcX9_middleX, decode cX9_middleX e.1 = .ok (e.2.1, e.2.2) ∧ zgd e = true := by decide +kernel
set_option maxRecDepth 100000 in
theorem zwX9_middleX : zBG[270]? = some (.code yX9_middleX cX9_middleX 3 (some .int)) := by first | rfl | decide +kernel
set_option maxRecDepth 100000 in
theorem zdX9_middleY : ∀ e ∈ zcX9_middleY, decode cX9_middleY e.1 = .ok (e.2.1, e.2.2) ∧ zgd e = true := by decide +kernel
set_option maxRecDepth 100000 in
theorem zwX9_middleY : zBG[274]? = some (.code yX9_middleY cX9_middleY 3 (some .int)) := by first | rfl | decide +kernel
set_option maxRecDepth 100000 in
theorem zdX9_shape : ∀ e ∈ zcX9_shape, decode cX9_shape e.1 = .ok (e.2.1, e.2.2) ∧ zgd e = true := by decide +kernel
set_option maxRecDepth 100000 in
theorem zwX9_shape : zBG[205]? = some (.code yX9_shape cX9_shape 7 (some .int)) := by first | rfl | decide +kernel
set_option maxRecDepth 100000 in
theorem zdX9_corner : ∀ e ∈ zcX9_corner, decode cX9_corner e.1 = .ok (e.2.1, e.2.2) ∧ zgd e = true := by decide +kernel
set_option maxRecDepth 100000 in
theorem zwX9_corner : zBG[236]? = some (.code yX9_corner cX9_corner 3 (some .int)) := by first | rfl | decide +kernel
set_option maxRecDepth 100000 in
theorem zdX9_middle : ∀ e ∈ zcX9_middle, decode cX9_middle e.1 = .ok (e.2.1, e.2.2) ∧ zgd e = true := by decide +kernel
set_option maxRecDepth 100000 in
theorem zwX9_middle : zBG[253]? = some (.code yX9_middle cX9_middle 2 (some .int)) := by first | rfl | decide +kernel
set_option maxRecDepth 100000 in
theorem zdX9_place : ∀ e ∈ zcX9_place, decode cX9_place e.1 = .ok (e.2.1, e.2.2) ∧ zgd e = true := by decide +kernel
set_option maxRecDepth 100000 in
theorem zwX9_place : zBG[298]? = some (.code yX9_place cX9_place 11 (some .int)) := by first | rfl | decide +kernel
set_option maxRecDepth 100000 in
theorem zdX9_isPlace : ∀ e ∈ zcX9_isPlace, decode cX9_isPlace e.1 = .ok (e.2.1, e.2.2) ∧ zgd e = true := by decide +kernel
set_option maxRecDepth 100000 in
theorem zwX9_isPlace : zBG[292]? = some (.code yX9_isPlace cX9_isPlace 2 (some .boolean)) := by first | rfl | decide +kernel
set_option maxRecDepth 100000 in
theorem zdX9_isIn : ∀ e ∈ zcX9_isIn, decode cX9_isIn e.1 = .ok (e.2.1, e.2.2) ∧ zgd e = true := by decide +kernel
set_option maxRecDepth 100000 in
theorem zwX9_isIn : zBG[289]? = some (.code yX9_isIn cX9_isIn 3 (some .int)) := by first | rfl | decide +kernel
set_option maxRecDepth 100000 in
theorem zdX9_isStand : ∀ e ∈ zcX9_isStand, decode cX9_isStand e.1 = .ok (e.2.1, e.2.2) ∧ zgd e = true := by decide +kernel
set_option maxRecDepth 100000 in
theorem zwX9_isStand : zBG[326]? = some (.code yX9_isStand cX9_isStand 3 (some .boolean)) := by first | rfl | decide +kernel
set_option maxRecDepth 100000 in
theorem zdX9_isFinger : ∀ e ∈ zcX9_isFinger, decode cX9_isFinger e.1 = .ok (e.2.1, e.2.2) ∧ zgd e = true := by decide +kernel
set_option maxRecDepth 100000 in
theorem zwX9_isFinger : zBG[344]? = some (.code yX9_isFinger cX9_isFinger 2 (some .boolean)) := by first | rfl | decide +kernel
set_option maxRecDepth 100000 in
theorem zdX9_finger : ∀ e ∈ zcX9_finger, decode cX9_finger e.1 = .ok (e.2.1, e.2.2) ∧ zgd e = true := by decide +kernel
set_option maxRecDepth 100000 in
theorem zwX9_finger : zBG[322]? = some (.code yX9_finger cX9_finger 3 (some .int)) := by first | rfl | decide +kernel
set_option maxRecDepth 100000 in
theorem zdX9_move : ∀ e ∈ zcX9_move, decode cX9_move e.1 = .ok (e.2.1, e.2.2) ∧ zgd e = true := by decide +kernel
set_option maxRecDepth 100000 in
theorem zwX9_move : zBG[340]? = some (.code yX9_move cX9_move 4 (some .int)) := by first | rfl | decide +kernel
set_option maxRecDepth 100000 in
theorem zdX9_release : ∀ e ∈ zcX9_release, decode cX9_release e.1 = .ok (e.2.1, e.2.2) ∧ zgd e = true := by decide +kernel
set_option maxRecDepth 100000 in
theorem zwX9_release : zBG[352]? = some (.code yX9_release cX9_release 2 (some .int)) := by first | rfl | decide +kernel
set_option maxRecDepth 100000 in
theorem zdX9_friction : ∀ e ∈ zcX9_friction, decode cX9_friction e.1 = .ok (e.2.1, e.2.2) ∧ zgd e = true := by decide +kernel
set_option maxRecDepth 100000 in
theorem zwX9_friction : zBG[360]? = some (.code yX9_friction cX9_friction 3 (some .int)) := by first | rfl | decide +kernel
set_option maxRecDepth 100000 in
theorem zdX9_lay : ∀ e ∈ zcX9_lay, decode cX9_lay e.1 = .ok (e.2.1, e.2.2) ∧ zgd e = true := by decide +kernel
set_option maxRecDepth 100000 in
theorem zwX9_lay : zBG[427]? = some (.code yX9_lay cX9_lay 5 none) := by first | rfl | decide +kernel
set_option maxRecDepth 100000 in
theorem zdX9_lays : ∀ e ∈ zcX9_lays, decode cX9_lays e.1 = .ok (e.2.1, e.2.2) ∧ zgd e = true := by decide +kernel
set_option maxRecDepth 100000 in
theorem zwX9_lays : zBG[423]? = some (.code yX9_lays cX9_lays 7 none) := by first | rfl | decide +kernel
set_option maxRecDepth 100000 in
theorem zdX9_layAll : ∀ e ∈ zcX9_layAll, decode cX9_layAll e.1 = .ok (e.2.1, e.2.2) ∧ zgd e = true := by decide +kernel
set_option maxRecDepth 100000 in
theorem zwX9_layAll : zBG[419]? = some (.code yX9_layAll cX9_layAll 2 none) := by first | rfl | decide +kernel
set_option maxRecDepth 100000 in
theorem zdX9_crosses : ∀ e ∈ zcX9_crosses, decode cX9_crosses e.1 = .ok (e.2.1, e.2.2) ∧ zgd e = true := by decide +kernel
set_option maxRecDepth 100000 in
theorem zwX9_crosses : zBG[476]? = some (.code yX9_crosses cX9_crosses 6 (some .boolean)) := by first | rfl | decide +kernel
set_option maxRecDepth 100000 in
theorem zdX9_isFull : ∀ e ∈ zcX9_isFull, decode cX9_isFull e.1 = .ok (e.2.1, e.2.2) ∧ zgd e = true := by decide +kernel
set_option maxRecDepth 100000 in
theorem zwX9_isFull : zBG[472]? = some (.code yX9_isFull cX9_isFull 4 (some .boolean)) := by first | rfl | decide +kernel
set_option maxRecDepth 100000 in
theorem zdX9_hold : ∀ e ∈ zcX9_hold, decode cX9_hold e.1 = .ok (e.2.1, e.2.2) ∧ zgd e = true := by decide +kernel
set_option maxRecDepth 100000 in
theorem zwX9_hold : zBG[466]? = some (.code yX9_hold cX9_hold 3 (some .boolean)) := by first | rfl | decide +kernel
set_option maxRecDepth 100000 in
theorem zdX9_push : ∀ e ∈ zcX9_push, decode cX9_push e.1 = .ok (e.2.1, e.2.2) ∧ zgd e = true := by decide +kernel
set_option maxRecDepth 100000 in
theorem zwX9_push : zBG[413]? = some (.code yX9_push cX9_push 3 (some .long)) := by first | rfl | decide +kernel
set_option maxRecDepth 100000 in
theorem zdX9_holds : ∀ e ∈ zcX9_holds, decode cX9_holds e.1 = .ok (e.2.1, e.2.2) ∧ zgd e = true := by decide +kernel
set_option maxRecDepth 100000 in
theorem zwX9_holds : zBG[462]? = some (.code yX9_holds cX9_holds 1 (some .int)) := by first | rfl | decide +kernel
set_option maxRecDepth 100000 in
theorem zdX9_witness : ∀ e ∈ zcX9_witness, decode cX9_witness e.1 = .ok (e.2.1, e.2.2) ∧ zgd e = true := by decide +kernel
set_option maxRecDepth 100000 in
theorem zwX9_witness : zBG[491]? = some (.code yX9_witness cX9_witness 6 (some .long)) := by first | rfl | decide +kernel
set_option maxRecDepth 100000 in
theorem zdX9_free : ∀ e ∈ zcX9_free, decode cX9_free e.1 = .ok (e.2.1, e.2.2) ∧ zgd e = true := by decide +kernel
set_option maxRecDepth 100000 in
theorem zwX9_free : zBG[509]? = some (.code yX9_free cX9_free 5 (some .int)) := by first | rfl | decide +kernel
set_option maxRecDepth 100000 in
theorem zdX9_holdBy : ∀ e ∈ zcX9_holdBy, decode cX9_holdBy e.1 = .ok (e.2.1, e.2.2) ∧ zgd e = true := by decide +kernel
set_option maxRecDepth 100000 in
theorem zwX9_holdBy : zBG[537]? = some (.code yX9_holdBy cX9_holdBy 7 (some .boolean)) := by first | rfl | decide +kernel
set_option maxRecDepth 100000 in
theorem zdX9_slip : ∀ e ∈ zcX9_slip, decode cX9_slip e.1 = .ok (e.2.1, e.2.2) ∧ zgd e = true := by decide +kernel
set_option maxRecDepth 100000 in
theorem zwX9_slip : zBG[533]? = some (.code yX9_slip cX9_slip 3 (some .int)) := by first | rfl | decide +kernel
set_option maxRecDepth 100000 in
theorem zdX9_spot : ∀ e ∈ zcX9_spot, decode cX9_spot e.1 = .ok (e.2.1, e.2.2) ∧ zgd e = true := by decide +kernel
set_option maxRecDepth 100000 in
theorem zwX9_spot : zBG[553]? = some (.code yX9_spot cX9_spot 4 (some .int)) := by first | rfl | decide +kernel
set_option maxRecDepth 100000 in
theorem zdX9_priceOf : ∀ e ∈ zcX9_priceOf, decode cX9_priceOf e.1 = .ok (e.2.1, e.2.2) ∧ zgd e = true := by decide +kernel
set_option maxRecDepth 100000 in
theorem zwX9_priceOf : zBG[586]? = some (.code yX9_priceOf cX9_priceOf 4 (some .int)) := by first | rfl | decide +kernel
set_option maxRecDepth 100000 in
theorem zdX9_cheapest : ∀ e ∈ zcX9_cheapest, decode cX9_cheapest e.1 = .ok (e.2.1, e.2.2) ∧ zgd e = true := by decide +kernel
set_option maxRecDepth 100000 in
theorem zwX9_cheapest : zBG[582]? = some (.code yX9_cheapest cX9_cheapest 7 (some .int)) := by first | rfl | decide +kernel
set_option maxRecDepth 100000 in
theorem zdX9_take : ∀ e ∈ zcX9_take, decode cX9_take e.1 = .ok (e.2.1, e.2.2) ∧ zgd e = true := by decide +kernel
set_option maxRecDepth 100000 in
theorem zwX9_take : zBG[596]? = some (.code yX9_take cX9_take 3 (some .int)) := by first | rfl | decide +kernel
set_option maxRecDepth 100000 in
theorem zdX9_farSquare : ∀ e ∈ zcX9_farSquare, decode cX9_farSquare e.1 = .ok (e.2.1, e.2.2) ∧ zgd e = true := by decide +kernel
set_option maxRecDepth 100000 in
theorem zwX9_farSquare : zBG[631]? = some (.code yX9_farSquare cX9_farSquare 9 (some .long)) := by first | rfl | decide +kernel
set_option maxRecDepth 100000 in
theorem zdX9_lifted : ∀ e ∈ zcX9_lifted, decode cX9_lifted e.1 = .ok (e.2.1, e.2.2) ∧ zgd e = true := by decide +kernel
set_option maxRecDepth 100000 in
theorem zwX9_lifted : zBG[626]? = some (.code yX9_lifted cX9_lifted 8 (some .boolean)) := by first | rfl | decide +kernel
set_option maxRecDepth 100000 in
theorem zdX9_lifts : ∀ e ∈ zcX9_lifts, decode cX9_lifts e.1 = .ok (e.2.1, e.2.2) ∧ zgd e = true := by decide +kernel
set_option maxRecDepth 100000 in
theorem zwX9_lifts : zBG[620]? = some (.code yX9_lifts cX9_lifts 5 (some .int)) := by first | rfl | decide +kernel
set_option maxRecDepth 100000 in
theorem zdX9_seal : ∀ e ∈ zcX9_seal, decode cX9_seal e.1 = .ok (e.2.1, e.2.2) ∧ zgd e = true := by decide +kernel
set_option maxRecDepth 100000 in
theorem zwX9_seal : zBG[645]? = some (.code yX9_seal cX9_seal 12 (some .int)) := by first | rfl | decide +kernel
set_option maxRecDepth 100000 in
theorem zdX9_probe : ∀ e ∈ zcX9_probe, decode cX9_probe e.1 = .ok (e.2.1, e.2.2) ∧ zgd e = true := by decide +kernel
set_option maxRecDepth 100000 in
theorem zwX9_probe : zBG[663]? = some (.code yX9_probe cX9_probe 3 (some .int)) := by first | rfl | decide +kernel
set_option maxRecDepth 100000 in
theorem zdX9_fits : ∀ e ∈ zcX9_fits, decode cX9_fits e.1 = .ok (e.2.1, e.2.2) ∧ zgd e = true := by decide +kernel
set_option maxRecDepth 100000 in
theorem zwX9_fits : zBG[696]? = some (.code yX9_fits cX9_fits 7 (some .boolean)) := by first | rfl | decide +kernel
set_option maxRecDepth 100000 in
theorem zdX9_poses : ∀ e ∈ zcX9_poses, decode cX9_poses e.1 = .ok (e.2.1, e.2.2) ∧ zgd e = true := by decide +kernel
set_option maxRecDepth 100000 in
theorem zwX9_poses : zBG[692]? = some (.code yX9_poses cX9_poses 3 (some .int)) := by first | rfl | decide +kernel
set_option maxRecDepth 100000 in
theorem zdX9_pose : ∀ e ∈ zcX9_pose, decode cX9_pose e.1 = .ok (e.2.1, e.2.2) ∧ zgd e = true := by decide +kernel
set_option maxRecDepth 100000 in
theorem zwX9_pose : zBG[704]? = some (.code yX9_pose cX9_pose 4 (some .int)) := by first | rfl | decide +kernel
set_option maxRecDepth 100000 in
theorem zdX9_grip : ∀ e ∈ zcX9_grip, decode cX9_grip e.1 = .ok (e.2.1, e.2.2) ∧ zgd e = true := by decide +kernel
set_option maxRecDepth 100000 in
theorem zwX9_grip : zBG[721]? = some (.code yX9_grip cX9_grip 1 (some .int)) := by first | rfl | decide +kernel
set_option maxRecDepth 100000 in
theorem zdX9_isGrip : ∀ e ∈ zcX9_isGrip, decode cX9_isGrip e.1 = .ok (e.2.1, e.2.2) ∧ zgd e = true := by decide +kernel
set_option maxRecDepth 100000 in
theorem zwX9_isGrip : zBG[742]? = some (.code yX9_isGrip cX9_isGrip 2 (some .boolean)) := by first | rfl | decide +kernel
set_option maxRecDepth 100000 in
theorem zdX9_link : ∀ e ∈ zcX9_link, decode cX9_link e.1 = .ok (e.2.1, e.2.2) ∧ zgd e = true := by decide +kernel
set_option maxRecDepth 100000 in
theorem zwX9_link : zBG[738]? = some (.code yX9_link cX9_link 4 (some .int)) := by first | rfl | decide +kernel
set_option maxRecDepth 100000 in
theorem zdX9_way : ∀ e ∈ zcX9_way, decode cX9_way e.1 = .ok (e.2.1, e.2.2) ∧ zgd e = true := by decide +kernel
set_option maxRecDepth 100000 in
theorem zwX9_way : zBG[759]? = some (.code yX9_way cX9_way 6 (some .int)) := by first | rfl | decide +kernel
set_option maxRecDepth 100000 in
theorem zdX9_drop : ∀ e ∈ zcX9_drop, decode cX9_drop e.1 = .ok (e.2.1, e.2.2) ∧ zgd e = true := by decide +kernel
set_option maxRecDepth 100000 in
theorem zwX9_drop : zBG[777]? = some (.code yX9_drop cX9_drop 1 (some .int)) := by first | rfl | decide +kernel
set_option maxRecDepth 100000 in
theorem zdX9_isDropped : ∀ e ∈ zcX9_isDropped, decode cX9_isDropped e.1 = .ok (e.2.1, e.2.2) ∧ zgd e = true := by decide +kernel
set_option maxRecDepth 100000 in
theorem zwX9_isDropped : zBG[799]? = some (.code yX9_isDropped cX9_isDropped 2 (some .boolean)) := by first | rfl | decide +kernel
set_option maxRecDepth 100000 in
theorem zdX9_on : ∀ e ∈ zcX9_on, decode cX9_on e.1 = .ok (e.2.1, e.2.2) ∧ zgd e = true := by decide +kernel
set_option maxRecDepth 100000 in
theorem zwX9_on : zBG[795]? = some (.code yX9_on cX9_on 3 (some .int)) := by first | rfl | decide +kernel
set_option maxRecDepth 100000 in
theorem zdX9_pick : ∀ e ∈ zcX9_pick, decode cX9_pick e.1 = .ok (e.2.1, e.2.2) ∧ zgd e = true := by decide +kernel
set_option maxRecDepth 100000 in
theorem zwX9_pick : zBG[819]? = some (.code yX9_pick cX9_pick 2 (some .int)) := by first | rfl | decide +kernel
set_option maxRecDepth 100000 in
theorem zdX9_left : ∀ e ∈ zcX9_left, decode cX9_left e.1 = .ok (e.2.1, e.2.2) ∧ zgd e = true := by decide +kernel
set_option maxRecDepth 100000 in
theorem zwX9_left : zBG[840]? = some (.code yX9_left cX9_left 5 (some .int)) := by first | rfl | decide +kernel
set_option maxRecDepth 100000 in
theorem zdX9_reach : ∀ e ∈ zcX9_reach, decode cX9_reach e.1 = .ok (e.2.1, e.2.2) ∧ zgd e = true := by decide +kernel
set_option maxRecDepth 100000 in
theorem zwX9_reach : zBG[836]? = some (.code yX9_reach cX9_reach 5 (some .int)) := by first | rfl | decide +kernel
set_option maxRecDepth 100000 in
theorem zdX9_ones : ∀ e ∈ zcX9_ones, decode cX9_ones e.1 = .ok (e.2.1, e.2.2) ∧ zgd e = true := by decide +kernel
set_option maxRecDepth 100000 in
theorem zwX9_ones : zBG[843]? = some (.code yX9_ones cX9_ones 3 (some .int)) := by first | rfl | decide +kernel
set_option maxRecDepth 100000 in
theorem zdX9_stuck : ∀ e ∈ zcX9_stuck, decode cX9_stuck e.1 = .ok (e.2.1, e.2.2) ∧ zgd e = true := by decide +kernel
set_option maxRecDepth 100000 in
theorem zwX9_stuck : zBG[851]? = some (.code yX9_stuck cX9_stuck 1 (some .int)) := by first | rfl | decide +kernel
set_option maxRecDepth 100000 in
theorem zdX9_met : ∀ e ∈ zcX9_met, decode cX9_met e.1 = .ok (e.2.1, e.2.2) ∧ zgd e = true := by decide +kernel
set_option maxRecDepth 100000 in
theorem zwX9_met : zBG[221]? = some (.code yX9_met cX9_met 2 (some .int)) := by first | rfl | decide +kernel
set_option maxRecDepth 100000 in
theorem zdX9_isSheet : ∀ e ∈ zcX9_isSheet, decode cX9_isSheet e.1 = .ok (e.2.1, e.2.2) ∧ zgd e = true := by decide +kernel
set_option maxRecDepth 100000 in
theorem zwX9_isSheet : zBG[214]? = some (.code yX9_isSheet cX9_isSheet 1 (some .boolean)) := by first | rfl | decide +kernel
set_option maxRecDepth 100000 in
theorem zdX9_sheet : ∀ e ∈ zcX9_sheet, decode cX9_sheet e.1 = .ok (e.2.1, e.2.2) ∧ zgd e = true := by decide +kernel
set_option maxRecDepth 100000 in
theorem zwX9_sheet : zBG[866]? = some (.code yX9_sheet cX9_sheet 5 (some .int)) := by first | rfl | decide +kernel
set_option maxRecDepth 100000 in
theorem zdX9_lose : ∀ e ∈ zcX9_lose, decode cX9_lose e.1 = .ok (e.2.1, e.2.2) ∧ zgd e = true := by decide +kernel
set_option maxRecDepth 100000 in
theorem zwX9_lose : zBG[875]? = some (.code yX9_lose cX9_lose 2 (some .int)) := by first | rfl | decide +kernel
set_option maxRecDepth 100000 in
theorem zdX9_lacks : ∀ e ∈ zcX9_lacks, decode cX9_lacks e.1 = .ok (e.2.1, e.2.2) ∧ zgd e = true := by decide +kernel
set_option maxRecDepth 100000 in
theorem zwX9_lacks : zBG[896]? = some (.code yX9_lacks cX9_lacks 4 (some .int)) := by first | rfl | decide +kernel
set_option maxRecDepth 100000 in
theorem zdX9_put : ∀ e ∈ zcX9_put, decode cX9_put e.1 = .ok (e.2.1, e.2.2) ∧ zgd e = true := by decide +kernel
set_option maxRecDepth 100000 in
theorem zwX9_put : zBG[892]? = some (.code yX9_put cX9_put 6 (some .int)) := by first | rfl | decide +kernel
set_option maxRecDepth 100000 in
theorem zdX9_get : ∀ e ∈ zcX9_get, decode cX9_get e.1 = .ok (e.2.1, e.2.2) ∧ zgd e = true := by decide +kernel
set_option maxRecDepth 100000 in
theorem zwX9_get : zBG[905]? = some (.code yX9_get cX9_get 4 (some .int)) := by first | rfl | decide +kernel
set_option maxRecDepth 100000 in
theorem zdX9_copy : ∀ e ∈ zcX9_copy, decode cX9_copy e.1 = .ok (e.2.1, e.2.2) ∧ zgd e = true := by decide +kernel
set_option maxRecDepth 100000 in
theorem zwX9_copy : zBG[919]? = some (.code yX9_copy cX9_copy 7 (some .int)) := by first | rfl | decide +kernel
set_option maxRecDepth 100000 in
theorem zdX9_count : ∀ e ∈ zcX9_count, decode cX9_count e.1 = .ok (e.2.1, e.2.2) ∧ zgd e = true := by decide +kernel
set_option maxRecDepth 100000 in
theorem zwX9_count : zBG[936]? = some (.code yX9_count cX9_count 2 (some .int)) := by first | rfl | decide +kernel
set_option maxRecDepth 100000 in
theorem zdX9_digest : ∀ e ∈ zcX9_digest, decode cX9_digest e.1 = .ok (e.2.1, e.2.2) ∧ zgd e = true := by decide +kernel
set_option maxRecDepth 100000 in
theorem zwX9_digest : zBG[950]? = some (.code yX9_digest cX9_digest 4 (some .long)) := by first | rfl | decide +kernel
set_option maxRecDepth 100000 in
theorem zdJ6_bitCount_0f7a4 : ∀ e ∈ zcJ6_bitCount_0f7a4, decode cJ6_bitCount_0f7a4 e.1 = .ok (e.2.1, e.2.2) ∧ zgd e = true := by decide +kernel
set_option maxRecDepth 100000 in
theorem zwJ6_bitCount_0f7a4 : zBG[569]? = some (.code yJ6_bitCount_0f7a4 cJ6_bitCount_0f7a4 1 (some .int)) := by first | rfl | decide +kernel
set_option maxRecDepth 100000 in
theorem zdJ9_max_7cf53 : ∀ e ∈ zcJ9_max_7cf53, decode Lib.Math.max.code e.1 = .ok (e.2.1, e.2.2) ∧ zgd e = true := by decide +kernel
set_option maxRecDepth 100000 in
theorem zwJ9_max_7cf53 : zBG[525]? = some (.code Lib.Math.max.name Lib.Math.max.code 2 (some .int)) := by first | rfl | decide +kernel
set_option maxRecDepth 100000 in
theorem zdJ9_min_7cf53 : ∀ e ∈ zcJ9_min_7cf53, decode Lib.Math.min.code e.1 = .ok (e.2.1, e.2.2) ∧ zgd e = true := by decide +kernel
set_option maxRecDepth 100000 in
theorem zwJ9_min_7cf53 : zBG[528]? = some (.code Lib.Math.min.name Lib.Math.min.code 2 (some .int)) := by first | rfl | decide +kernel
set_option maxRecDepth 100000 in
theorem zdL_law_0 : ∀ e ∈ zcL_law_0, decode cL_law e.1 = .ok (e.2.1, e.2.2) ∧ zgd e = true := by decide +kernel
set_option maxRecDepth 100000 in
theorem zdL_law_1 : ∀ e ∈ zcL_law_1, decode cL_law e.1 = .ok (e.2.1, e.2.2) ∧ zgd e = true := by decide +kernel
set_option maxRecDepth 100000 in
theorem zdL_law_2 : ∀ e ∈ zcL_law_2, decode cL_law e.1 = .ok (e.2.1, e.2.2) ∧ zgd e = true := by decide +kernel
set_option maxRecDepth 100000 in
theorem zdL_law_3 : ∀ e ∈ zcL_law_3, decode cL_law e.1 = .ok (e.2.1, e.2.2) ∧ zgd e = true := by decide +kernel
set_option maxRecDepth 100000 in
theorem zdL_law_4 : ∀ e ∈ zcL_law_4, decode cL_law e.1 = .ok (e.2.1, e.2.2) ∧ zgd e = true := by decide +kernel
set_option maxRecDepth 100000 in
theorem zdL_law_5 : ∀ e ∈ zcL_law_5, decode cL_law e.1 = .ok (e.2.1, e.2.2) ∧ zgd e = true := by decide +kernel
set_option maxRecDepth 100000 in
theorem zdL_law_6 : ∀ e ∈ zcL_law_6, decode cL_law e.1 = .ok (e.2.1, e.2.2) ∧ zgd e = true := by decide +kernel
set_option maxRecDepth 100000 in
theorem zdL_law_7 : ∀ e ∈ zcL_law_7, decode cL_law e.1 = .ok (e.2.1, e.2.2) ∧ zgd e = true := by decide +kernel
set_option maxRecDepth 100000 in
theorem zdL_law_8 : ∀ e ∈ zcL_law_8, decode cL_law e.1 = .ok (e.2.1, e.2.2) ∧ zgd e = true := by decide +kernel
set_option maxRecDepth 100000 in
theorem zdL_law_9 : ∀ e ∈ zcL_law_9, decode cL_law e.1 = .ok (e.2.1, e.2.2) ∧ zgd e = true := by decide +kernel
set_option maxRecDepth 100000 in
theorem zdL_law_10 : ∀ e ∈ zcL_law_10, decode cL_law e.1 = .ok (e.2.1, e.2.2) ∧ zgd e = true := by decide +kernel
set_option maxRecDepth 100000 in
theorem zdL_law_11 : ∀ e ∈ zcL_law_11, decode cL_law e.1 = .ok (e.2.1, e.2.2) ∧ zgd e = true := by decide +kernel
set_option maxRecDepth 100000 in
theorem zdL_law_12 : ∀ e ∈ zcL_law_12, decode cL_law e.1 = .ok (e.2.1, e.2.2) ∧ zgd e = true := by decide +kernel
set_option maxRecDepth 100000 in
theorem zdL_law_13 : ∀ e ∈ zcL_law_13, decode cL_law e.1 = .ok (e.2.1, e.2.2) ∧ zgd e = true := by decide +kernel
set_option maxRecDepth 100000 in
theorem zdL_law_14 : ∀ e ∈ zcL_law_14, decode cL_law e.1 = .ok (e.2.1, e.2.2) ∧ zgd e = true := by decide +kernel
set_option maxRecDepth 100000 in
theorem zdL_law_15 : ∀ e ∈ zcL_law_15, decode cL_law e.1 = .ok (e.2.1, e.2.2) ∧ zgd e = true := by decide +kernel
set_option maxRecDepth 100000 in
theorem zdL_law_16 : ∀ e ∈ zcL_law_16, decode cL_law e.1 = .ok (e.2.1, e.2.2) ∧ zgd e = true := by decide +kernel
theorem zdL_law : ∀ e ∈ zcL_law, decode cL_law e.1 = .ok (e.2.1, e.2.2) ∧ zgd e = true := (List.forall_mem_append.mpr ⟨zdL_law_0, (List.forall_mem_append.mpr ⟨zdL_law_1, (List.forall_mem_append.mpr ⟨zdL_law_2, (List.forall_mem_append.mpr ⟨zdL_law_3, (List.forall_mem_append.mpr ⟨zdL_law_4, (List.forall_mem_append.mpr ⟨zdL_law_5, (List.forall_mem_append.mpr ⟨zdL_law_6, (List.forall_mem_append.mpr ⟨zdL_law_7, (List.forall_mem_append.mpr ⟨zdL_law_8, (List.forall_mem_append.mpr ⟨zdL_law_9, (List.forall_mem_append.mpr ⟨zdL_law_10, (List.forall_mem_append.mpr ⟨zdL_law_11, (List.forall_mem_append.mpr ⟨zdL_law_12, (List.forall_mem_append.mpr ⟨zdL_law_13, (List.forall_mem_append.mpr ⟨zdL_law_14, (List.forall_mem_append.mpr ⟨zdL_law_15, zdL_law_16⟩)⟩)⟩)⟩)⟩)⟩)⟩)⟩)⟩)⟩)⟩)⟩)⟩)⟩)⟩)⟩)
