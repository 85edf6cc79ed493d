set_option maxRecDepth 100000 in
theorem zdX0_init : ∀ e ∈ zcX0_init, decode cX0_init e.1 = .ok (e.2.1, e.2.2) ∧ zgd e = true := by decide +kernel
set_option maxRecDepth 100000 in
theorem zwX0_init : zBG[108]? = some (.code yX0_init cX0_init 1 none) := by first | rfl | decide +kernel
set_option maxRecDepth 100000 in
theorem zdX0_dropped : ∀ e ∈ zcX0_dropped, decode cX0_dropped e.1 = .ok (e.2.1, e.2.2) ∧ zgd e = true := by decide +kernel
set_option maxRecDepth 100000 in
theorem zwX0_dropped : zBG[349]? = some (.code yX0_dropped cX0_dropped 1 (some .int)) := by first | rfl | decide +kernel
set_option maxRecDepth 100000 in
theorem zdX0_size : ∀ e ∈ zcX0_size, decode cX0_size e.1 = .ok (e.2.1, e.2.2) ∧ zgd e = true := by decide +kernel
set_option maxRecDepth 100000 in
theorem zwX0_size : zBG[337]? = some (.code yX0_size cX0_size 1 (some .int)) := by first | rfl | decide +kernel
set_option maxRecDepth 100000 in
theorem zdX1_init : ∀ e ∈ zcX1_init, decode cX1_init e.1 = .ok (e.2.1, e.2.2) ∧ zgd e = true := by decide +kernel
set_option maxRecDepth 100000 in
theorem zwX1_init : zBG[103]? = some (.code yX1_init cX1_init 1 none) := by first | rfl | decide +kernel
set_option maxRecDepth 100000 in
theorem zdX1_size : ∀ e ∈ zcX1_size, decode cX1_size e.1 = .ok (e.2.1, e.2.2) ∧ zgd e = true := by decide +kernel
set_option maxRecDepth 100000 in
theorem zwX1_size : zBG[328]? = some (.code yX1_size cX1_size 1 (some .int)) := by first | rfl | decide +kernel
set_option maxRecDepth 100000 in
theorem zdX2_init : ∀ e ∈ zcX2_init, decode cX2_init e.1 = .ok (e.2.1, e.2.2) ∧ zgd e = true := by decide +kernel
set_option maxRecDepth 100000 in
theorem zwX2_init : zBG[81]? = some (.code yX2_init cX2_init 1 none) := by first | rfl | decide +kernel
set_option maxRecDepth 100000 in
theorem zdX2_size : ∀ e ∈ zcX2_size, decode cX2_size e.1 = .ok (e.2.1, e.2.2) ∧ zgd e = true := by decide +kernel
set_option maxRecDepth 100000 in
theorem zwX2_size : zBG[229]? = some (.code yX2_size cX2_size 1 (some .int)) := by first | rfl | decide +kernel
set_option maxRecDepth 100000 in
theorem zdX2_edge : ∀ e ∈ zcX2_edge, decode cX2_edge e.1 = .ok (e.2.1, e.2.2) ∧ zgd e = true := by decide +kernel
set_option maxRecDepth 100000 in
theorem zwX2_edge : zBG[255]? = some (.code yX2_edge cX2_edge 2 (some .int)) := by first | rfl | decide +kernel
set_option maxRecDepth 100000 in
theorem zdX2_eighth : ∀ e ∈ zcX2_eighth, decode cX2_eighth e.1 = .ok (e.2.1, e.2.2) ∧ zgd e = true := by decide +kernel
set_option maxRecDepth 100000 in
theorem zwX2_eighth : zBG[259]? = some (.code yX2_eighth cX2_eighth 2 (some .int)) := by first | rfl | decide +kernel
set_option maxRecDepth 100000 in
theorem zdX2_clear : ∀ e ∈ zcX2_clear, decode cX2_clear e.1 = .ok (e.2.1, e.2.2) ∧ zgd e = true := by decide +kernel
set_option maxRecDepth 100000 in
theorem zwX2_clear : zBG[199]? = some (.code yX2_clear cX2_clear 1 none) := by first | rfl | decide +kernel
set_option maxRecDepth 100000 in
theorem zdX2_add : ∀ e ∈ zcX2_add, decode cX2_add e.1 = .ok (e.2.1, e.2.2) ∧ zgd e = true := by decide +kernel
set_option maxRecDepth 100000 in
theorem zwX2_add : zBG[233]? = some (.code yX2_add cX2_add 3 none) := by first | rfl | decide +kernel
set_option maxRecDepth 100000 in
theorem zdX2_stand : ∀ e ∈ zcX2_stand, decode cX2_stand e.1 = .ok (e.2.1, e.2.2) ∧ zgd e = true := by decide +kernel
set_option maxRecDepth 100000 in
theorem zwX2_stand : zBG[237]? = some (.code yX2_stand cX2_stand 4 none) := by first | rfl | decide +kernel
set_option maxRecDepth 100000 in
theorem zdX2_become : ∀ e ∈ zcX2_become, decode cX2_become e.1 = .ok (e.2.1, e.2.2) ∧ zgd e = true := by decide +kernel
set_option maxRecDepth 100000 in
theorem zwX2_become : zBG[370]? = some (.code yX2_become cX2_become 3 none) := by first | rfl | decide +kernel
set_option maxRecDepth 100000 in
theorem zdX3_init : ∀ e ∈ zcX3_init, decode cX3_init e.1 = .ok (e.2.1, e.2.2) ∧ zgd e = true := by decide +kernel
set_option maxRecDepth 100000 in
theorem zwX3_init : zBG[48]? = some (.code yX3_init cX3_init 1 none) := by first | rfl | decide +kernel
set_option maxRecDepth 100000 in
theorem zdX3_setCorner : ∀ e ∈ zcX3_setCorner, decode cX3_setCorner e.1 = .ok (e.2.1, e.2.2) ∧ zgd e = true := by decide +kernel
set_option maxRecDepth 100000 in
theorem zwX3_setCorner : zBG[55]? = some (.code yX3_setCorner cX3_setCorner 4 none) := by first | rfl | decide +kernel
set_option maxRecDepth 100000 in
theorem zdX3_close : ∀ e ∈ zcX3_close, decode cX3_close e.1 = .ok (e.2.1, e.2.2) ∧ zgd e = true := by decide +kernel
set_option maxRecDepth 100000 in
theorem zwX3_close : zBG[61]? = some (.code yX3_close cX3_close 5 none) := by first | rfl | decide +kernel
set_option maxRecDepth 100000 in
theorem zdX3_corners : ∀ e ∈ zcX3_corners, decode cX3_corners e.1 = .ok (e.2.1, e.2.2) ∧ zgd e = true := by decide +kernel
set_option maxRecDepth 100000 in
theorem zwX3_corners : zBG[225]? = some (.code yX3_corners cX3_corners 1 (some .int)) := by first | rfl | decide +kernel
set_option maxRecDepth 100000 in
theorem zdX3_area : ∀ e ∈ zcX3_area, decode cX3_area e.1 = .ok (e.2.1, e.2.2) ∧ zgd e = true := by decide +kernel
set_option maxRecDepth 100000 in
theorem zwX3_area : zBG[209]? = some (.code yX3_area cX3_area 1 (some .int)) := by first | rfl | decide +kernel
set_option maxRecDepth 100000 in
theorem zdX3_x : ∀ e ∈ zcX3_x, decode cX3_x e.1 = .ok (e.2.1, e.2.2) ∧ zgd e = true := by decide +kernel
set_option maxRecDepth 100000 in
theorem zwX3_x : zBG[73]? = some (.code yX3_x cX3_x 2 (some .int)) := by first | rfl | decide +kernel
set_option maxRecDepth 100000 in
theorem zdX3_y : ∀ e ∈ zcX3_y, decode cX3_y e.1 = .ok (e.2.1, e.2.2) ∧ zgd e = true := by decide +kernel
set_option maxRecDepth 100000 in
theorem zwX3_y : zBG[79]? = some (.code yX3_y cX3_y 2 (some .int)) := by first | rfl | decide +kernel
set_option maxRecDepth 100000 in
theorem zdX3_next : ∀ e ∈ zcX3_next, decode cX3_next e.1 = .ok (e.2.1, e.2.2) ∧ zgd e = true := by decide +kernel
set_option maxRecDepth 100000 in
theorem zwX3_next : zBG[69]? = some (.code yX3_next cX3_next 2 (some .int)) := by first | rfl | decide +kernel
set_option maxRecDepth 100000 in
theorem zdX3_dx : ∀ e ∈ zcX3_dx, decode cX3_dx e.1 = .ok (e.2.1, e.2.2) ∧ zgd e = true := by decide +kernel
set_option maxRecDepth 100000 in
theorem zwX3_dx : zBG[263]? = some (.code yX3_dx cX3_dx 2 (some .int)) := by first | rfl | decide +kernel
set_option maxRecDepth 100000 in
theorem zdX3_dy : ∀ e ∈ zcX3_dy, decode cX3_dy e.1 = .ok (e.2.1, e.2.2) ∧ zgd e = true := by decide +kernel
set_option maxRecDepth 100000 in
theorem zwX3_dy : zBG[267]? = some (.code yX3_dy cX3_dy 2 (some .int)) := by first | rfl | decide +kernel
set_option maxRecDepth 100000 in
theorem zdX4_init : ∀ e ∈ zcX4_init, decode cX4_init e.1 = .ok (e.2.1, e.2.2) ∧ zgd e = true := by decide +kernel
set_option maxRecDepth 100000 in
theorem zwX4_init : zBG[98]? = some (.code yX4_init cX4_init 1 none) := by first | rfl | decide +kernel
set_option maxRecDepth 100000 in
theorem zdX4_size : ∀ e ∈ zcX4_size, decode cX4_size e.1 = .ok (e.2.1, e.2.2) ∧ zgd e = true := by decide +kernel
set_option maxRecDepth 100000 in
theorem zwX4_size : zBG[323]? = some (.code yX4_size cX4_size 1 (some .int)) := by first | rfl | decide +kernel
set_option maxRecDepth 100000 in
theorem zdX5_init : ∀ e ∈ zcX5_init, decode cX5_init e.1 = .ok (e.2.1, e.2.2) ∧ zgd e = true := by decide +kernel
set_option maxRecDepth 100000 in
theorem zwX5_init : zBG[113]? = some (.code yX5_init cX5_init 2 none) := by first | rfl | decide +kernel
set_option maxRecDepth 100000 in
theorem zdX5_latestFinding : ∀ e ∈ zcX5_latestFinding, decode cX5_latestFinding e.1 = .ok (e.2.1, e.2.2) ∧ zgd e = true := by decide +kernel
set_option maxRecDepth 100000 in
theorem zwX5_latestFinding : zBG[333]? = some (.code yX5_latestFinding cX5_latestFinding 1 (some .int)) := by first | rfl | decide +kernel
set_option maxRecDepth 100000 in
theorem zdX5_find : ∀ e ∈ zcX5_find, decode cX5_find e.1 = .ok (e.2.1, e.2.2) ∧ zgd e = true := by decide +kernel
set_option maxRecDepth 100000 in
theorem zwX5_find : zBG[139]? = some (.code yX5_find cX5_find 2 (some .int)) := by first | rfl | decide +kernel
set_option maxRecDepth 100000 in
theorem zdX5_form : ∀ e ∈ zcX5_form, decode cX5_form e.1 = .ok (e.2.1, e.2.2) ∧ zgd e = true := by decide +kernel
set_option maxRecDepth 100000 in
theorem zwX5_form : zBG[168]? = some (.code yX5_form cX5_form 2 (some .int)) := by first | rfl | decide +kernel
set_option maxRecDepth 100000 in
theorem zdX5_length : ∀ e ∈ zcX5_length, decode cX5_length e.1 = .ok (e.2.1, e.2.2) ∧ zgd e = true := by decide +kernel
set_option maxRecDepth 100000 in
theorem zwX5_length : zBG[172]? = some (.code yX5_length cX5_length 2 (some .int)) := by first | rfl | decide +kernel
set_option maxRecDepth 100000 in
theorem zdX5_isLost : ∀ e ∈ zcX5_isLost, decode cX5_isLost e.1 = .ok (e.2.1, e.2.2) ∧ zgd e = true := by decide +kernel
set_option maxRecDepth 100000 in
theorem zwX5_isLost : zBG[164]? = some (.code yX5_isLost cX5_isLost 2 (some .boolean)) := by first | rfl | decide +kernel
set_option maxRecDepth 100000 in
theorem zdX5_forget : ∀ e ∈ zcX5_forget, decode cX5_forget e.1 = .ok (e.2.1, e.2.2) ∧ zgd e = true := by decide +kernel
set_option maxRecDepth 100000 in
theorem zwX5_forget : zBG[121]? = some (.code yX5_forget cX5_forget 2 none) := by first | rfl | decide +kernel
set_option maxRecDepth 100000 in
theorem zdX5_renew : ∀ e ∈ zcX5_renew, decode cX5_renew e.1 = .ok (e.2.1, e.2.2) ∧ zgd e = true := by decide +kernel
set_option maxRecDepth 100000 in
theorem zwX5_renew : zBG[144]? = some (.code yX5_renew cX5_renew 5 none) := by first | rfl | decide +kernel
set_option maxRecDepth 100000 in
theorem zdX5_value : ∀ e ∈ zcX5_value, decode cX5_value e.1 = .ok (e.2.1, e.2.2) ∧ zgd e = true := by decide +kernel
set_option maxRecDepth 100000 in
theorem zwX5_value : zBG[190]? = some (.code yX5_value cX5_value 3 (some .int)) := by first | rfl | decide +kernel
set_option maxRecDepth 100000 in
theorem zdX5_write : ∀ e ∈ zcX5_write, decode cX5_write e.1 = .ok (e.2.1, e.2.2) ∧ zgd e = true := by decide +kernel
set_option maxRecDepth 100000 in
theorem zwX5_write : zBG[176]? = some (.code yX5_write cX5_write 5 none) := by first | rfl | decide +kernel
set_option maxRecDepth 100000 in
theorem zdX5_faultAt : ∀ e ∈ zcX5_faultAt, decode cX5_faultAt e.1 = .ok (e.2.1, e.2.2) ∧ zgd e = true := by decide +kernel
set_option maxRecDepth 100000 in
theorem zwX5_faultAt : zBG[160]? = some (.code yX5_faultAt cX5_faultAt 4 (some .int)) := by first | rfl | decide +kernel
set_option maxRecDepth 100000 in
theorem zdX6_init : ∀ e ∈ zcX6_init, decode cX6_init e.1 = .ok (e.2.1, e.2.2) ∧ zgd e = true := by decide +kernel
set_option maxRecDepth 100000 in
theorem zwX6_init : zBG[92]? = some (.code yX6_init cX6_init 1 none) := by first | rfl | decide +kernel
set_option maxRecDepth 100000 in
theorem zdX6_size : ∀ e ∈ zcX6_size, decode cX6_size e.1 = .ok (e.2.1, e.2.2) ∧ zgd e = true := by decide +kernel
set_option maxRecDepth 100000 in
theorem zwX6_size : zBG[319]? = some (.code yX6_size cX6_size 1 (some .int)) := by first | rfl | decide +kernel
set_option maxRecDepth 100000 in
theorem zdX6_clear : ∀ e ∈ zcX6_clear, decode cX6_clear e.1 = .ok (e.2.1, e.2.2) ∧ zgd e = true := by decide +kernel
set_option maxRecDepth 100000 in
theorem zwX6_clear : zBG[204]? = some (.code yX6_clear cX6_clear 1 none) := by first | rfl | decide +kernel
set_option maxRecDepth 100000 in
theorem zdX6_add : ∀ e ∈ zcX6_add, decode cX6_add e.1 = .ok (e.2.1, e.2.2) ∧ zgd e = true := by decide +kernel
set_option maxRecDepth 100000 in
theorem zwX6_add : zBG[385]? = some (.code yX6_add cX6_add 4 none) := by first | rfl | decide +kernel
set_option maxRecDepth 100000 in
theorem zdX6_price : ∀ e ∈ zcX6_price, decode cX6_price e.1 = .ok (e.2.1, e.2.2) ∧ zgd e = true := by decide +kernel
set_option maxRecDepth 100000 in
theorem zwX6_price : zBG[397]? = some (.code yX6_price cX6_price 4 (some .int)) := by first | rfl | decide +kernel
set_option maxRecDepth 100000 in
theorem zdX6_isBetter : ∀ e ∈ zcX6_isBetter, decode cX6_isBetter e.1 = .ok (e.2.1, e.2.2) ∧ zgd e = true := by decide +kernel
set_option maxRecDepth 100000 in
theorem zwX6_isBetter : zBG[393]? = some (.code yX6_isBetter cX6_isBetter 4 (some .boolean)) := by first | rfl | decide +kernel
set_option maxRecDepth 100000 in
theorem zdX6_layOut : ∀ e ∈ zcX6_layOut, decode cX6_layOut e.1 = .ok (e.2.1, e.2.2) ∧ zgd e = true := by decide +kernel
set_option maxRecDepth 100000 in
theorem zwX6_layOut : zBG[402]? = some (.code yX6_layOut cX6_layOut 4 none) := by first | rfl | decide +kernel
set_option maxRecDepth 100000 in
theorem zdX7_init : ∀ e ∈ zcX7_init, decode cX7_init e.1 = .ok (e.2.1, e.2.2) ∧ zgd e = true := by decide +kernel
set_option maxRecDepth 100000 in
theorem zwX7_init : zBG[86]? = some (.code yX7_init cX7_init 1 none) := by first | rfl | decide +kernel
set_option maxRecDepth 100000 in
theorem zdX7_size : ∀ e ∈ zcX7_size, decode cX7_size e.1 = .ok (e.2.1, e.2.2) ∧ zgd e = true := by decide +kernel
set_option maxRecDepth 100000 in
theorem zwX7_size : zBG[300]? = some (.code yX7_size cX7_size 1 (some .int)) := by first | rfl | decide +kernel
set_option maxRecDepth 100000 in
theorem zdX7_part : ∀ e ∈ zcX7_part, decode cX7_part e.1 = .ok (e.2.1, e.2.2) ∧ zgd e = true := by decide +kernel
set_option maxRecDepth 100000 in
theorem zwX7_part : zBG[311]? = some (.code yX7_part cX7_part 3 (some .int)) := by first | rfl | decide +kernel
set_option maxRecDepth 100000 in
theorem zdX7_press : ∀ e ∈ zcX7_press, decode cX7_press e.1 = .ok (e.2.1, e.2.2) ∧ zgd e = true := by decide +kernel
set_option maxRecDepth 100000 in
theorem zwX7_press : zBG[249]? = some (.code yX7_press cX7_press 11 none) := by first | rfl | decide +kernel
set_option maxRecDepth 100000 in
theorem zdX7_add : ∀ e ∈ zcX7_add, decode cX7_add e.1 = .ok (e.2.1, e.2.2) ∧ zgd e = true := by decide +kernel
set_option maxRecDepth 100000 in
theorem zwX7_add : zBG[273]? = some (.code yX7_add cX7_add 5 none) := by first | rfl | decide +kernel
set_option maxRecDepth 100000 in
theorem zdX7_spread : ∀ e ∈ zcX7_spread, decode cX7_spread e.1 = .ok (e.2.1, e.2.2) ∧ zgd e = true := by decide +kernel
set_option maxRecDepth 100000 in
theorem zwX7_spread : zBG[277]? = some (.code yX7_spread cX7_spread 5 (some .int)) := by first | rfl | decide +kernel
set_option maxRecDepth 100000 in
theorem zdX7_turnIfBelow : ∀ e ∈ zcX7_turnIfBelow, decode cX7_turnIfBelow e.1 = .ok (e.2.1, e.2.2) ∧ zgd e = true := by decide +kernel
set_option maxRecDepth 100000 in
theorem zwX7_turnIfBelow : zBG[292]? = some (.code yX7_turnIfBelow cX7_turnIfBelow 2 none) := by first | rfl | decide +kernel
set_option maxRecDepth 100000 in
theorem zdX7_normal : ∀ e ∈ zcX7_normal, decode cX7_normal e.1 = .ok (e.2.1, e.2.2) ∧ zgd e = true := by decide +kernel
set_option maxRecDepth 100000 in
theorem zwX7_normal : zBG[358]? = some (.code yX7_normal cX7_normal 2 (some .long)) := by first | rfl | decide +kernel
set_option maxRecDepth 100000 in
theorem zdX7_cross : ∀ e ∈ zcX7_cross, decode cX7_cross e.1 = .ok (e.2.1, e.2.2) ∧ zgd e = true := by decide +kernel
set_option maxRecDepth 100000 in
theorem zwX7_cross : zBG[281]? = some (.code yX7_cross cX7_cross 15 (some .boolean)) := by first | rfl | decide +kernel
set_option maxRecDepth 100000 in
theorem zdX7_signs : ∀ e ∈ zcX7_signs, decode cX7_signs e.1 = .ok (e.2.1, e.2.2) ∧ zgd e = true := by decide +kernel
set_option maxRecDepth 100000 in
theorem zwX7_signs : zBG[288]? = some (.code yX7_signs cX7_signs 5 (some .int)) := by first | rfl | decide +kernel
set_option maxRecDepth 100000 in
theorem zdX8_init : ∀ e ∈ zcX8_init, decode cX8_init e.1 = .ok (e.2.1, e.2.2) ∧ zgd e = true := by decide +kernel
set_option maxRecDepth 100000 in
theorem zwX8_init : zBG[8]? = some (.code yX8_init cX8_init 1 none) := by first | rfl | decide +kernel
set_option maxRecDepth 100000 in
theorem zdX8_shape : ∀ e ∈ zcX8_shape, decode cX8_shape e.1 = .ok (e.2.1, e.2.2) ∧ zgd e = true := by decide +kernel
set_option maxRecDepth 100000 in
theorem zwX8_shape : zBG[180]? = some (.code yX8_shape cX8_shape 4 (some .int)) := by first | rfl | decide +kernel
set_option maxRecDepth 100000 in
theorem zdX8_isShape : ∀ e ∈ zcX8_isShape, decode cX8_isShape e.1 = .ok (e.2.1, e.2.2) ∧ zgd e = true := by decide +kernel
set_option maxRecDepth 100000 in
theorem zwX8_isShape : zBG[186]? = some (.code yX8_isShape cX8_isShape 6 (some .boolean)) := by first | rfl | decide +kernel
set_option maxRecDepth 100000 in
theorem zdX8_finger : ∀ e ∈ zcX8_finger, decode cX8_finger e.1 = .ok (e.2.1, e.2.2) ∧ zgd e = true := by decide +kernel
set_option maxRecDepth 100000 in
theorem zwX8_finger : zBG[217]? = some (.code yX8_finger cX8_finger 3 (some .int)) := by first | rfl | decide +kernel
set_option maxRecDepth 100000 in
theorem zdX8_friction : ∀ e ∈ zcX8_friction, decode cX8_friction e.1 = .ok (e.2.1, e.2.2) ∧ zgd e = true := by decide +kernel
set_option maxRecDepth 100000 in
theorem zwX8_friction : zBG[213]? = some (.code yX8_friction cX8_friction 3 (some .int)) := by first | rfl | decide +kernel
set_option maxRecDepth 100000 in
theorem zdX8_push : ∀ e ∈ zcX8_push, decode cX8_push e.1 = .ok (e.2.1, e.2.2) ∧ zgd e = true := by decide +kernel
set_option maxRecDepth 100000 in
theorem zwX8_push : zBG[296]? = some (.code yX8_push cX8_push 3 (some .long)) := by first | rfl | decide +kernel
set_option maxRecDepth 100000 in
theorem zdX8_holds : ∀ e ∈ zcX8_holds, decode cX8_holds e.1 = .ok (e.2.1, e.2.2) ∧ zgd e = true := by decide +kernel
set_option maxRecDepth 100000 in
theorem zwX8_holds : zBG[241]? = some (.code yX8_holds cX8_holds 1 (some .int)) := by first | rfl | decide +kernel
set_option maxRecDepth 100000 in
theorem zdX8_witness : ∀ e ∈ zcX8_witness, decode cX8_witness e.1 = .ok (e.2.1, e.2.2) ∧ zgd e = true := by decide +kernel
set_option maxRecDepth 100000 in
theorem zwX8_witness : zBG[354]? = some (.code yX8_witness cX8_witness 2 (some .long)) := by first | rfl | decide +kernel
set_option maxRecDepth 100000 in
theorem zdX8_free : ∀ e ∈ zcX8_free, decode cX8_free e.1 = .ok (e.2.1, e.2.2) ∧ zgd e = true := by decide +kernel
set_option maxRecDepth 100000 in
theorem zwX8_free : zBG[362]? = some (.code yX8_free cX8_free 4 (some .int)) := by first | rfl | decide +kernel
set_option maxRecDepth 100000 in
theorem zdX8_slip : ∀ e ∈ zcX8_slip, decode cX8_slip e.1 = .ok (e.2.1, e.2.2) ∧ zgd e = true := by decide +kernel
set_option maxRecDepth 100000 in
theorem zwX8_slip : zBG[414]? = some (.code yX8_slip cX8_slip 2 (some .int)) := by first | rfl | decide +kernel
set_option maxRecDepth 100000 in
theorem zdX8_isHeldWithin : ∀ e ∈ zcX8_isHeldWithin, decode cX8_isHeldWithin e.1 = .ok (e.2.1, e.2.2) ∧ zgd e = true := by decide +kernel
set_option maxRecDepth 100000 in
theorem zwX8_isHeldWithin : zBG[418]? = some (.code yX8_isHeldWithin cX8_isHeldWithin 4 (some .boolean)) := by first | rfl | decide +kernel
set_option maxRecDepth 100000 in
theorem zdX8_slide : ∀ e ∈ zcX8_slide, decode cX8_slide e.1 = .ok (e.2.1, e.2.2) ∧ zgd e = true := by decide +kernel
set_option maxRecDepth 100000 in
theorem zwX8_slide : zBG[422]? = some (.code yX8_slide cX8_slide 7 (some .boolean)) := by first | rfl | decide +kernel
set_option maxRecDepth 100000 in
theorem zdX8_isHeldBy : ∀ e ∈ zcX8_isHeldBy, decode cX8_isHeldBy e.1 = .ok (e.2.1, e.2.2) ∧ zgd e = true := by decide +kernel
set_option maxRecDepth 100000 in
theorem zwX8_isHeldBy : zBG[245]? = some (.code yX8_isHeldBy cX8_isHeldBy 2 (some .boolean)) := by first | rfl | decide +kernel
set_option maxRecDepth 100000 in
theorem zdX8_spot : ∀ e ∈ zcX8_spot, decode cX8_spot e.1 = .ok (e.2.1, e.2.2) ∧ zgd e = true := by decide +kernel
set_option maxRecDepth 100000 in
theorem zwX8_spot : zBG[381]? = some (.code yX8_spot cX8_spot 4 (some .int)) := by first | rfl | decide +kernel
set_option maxRecDepth 100000 in
theorem zdX8_cheapest : ∀ e ∈ zcX8_cheapest, decode cX8_cheapest e.1 = .ok (e.2.1, e.2.2) ∧ zgd e = true := by decide +kernel
set_option maxRecDepth 100000 in
theorem zwX8_cheapest : zBG[389]? = some (.code yX8_cheapest cX8_cheapest 3 (some .int)) := by first | rfl | decide +kernel
set_option maxRecDepth 100000 in
theorem zdX8_take : ∀ e ∈ zcX8_take, decode cX8_take e.1 = .ok (e.2.1, e.2.2) ∧ zgd e = true := by decide +kernel
set_option maxRecDepth 100000 in
theorem zwX8_take : zBG[408]? = some (.code yX8_take cX8_take 2 (some .int)) := by first | rfl | decide +kernel
set_option maxRecDepth 100000 in
theorem zdX8_sheet : ∀ e ∈ zcX8_sheet, decode cX8_sheet e.1 = .ok (e.2.1, e.2.2) ∧ zgd e = true := by decide +kernel
set_option maxRecDepth 100000 in
theorem zwX8_sheet : zBG[129]? = some (.code yX8_sheet cX8_sheet 4 (some .int)) := by first | rfl | decide +kernel
set_option maxRecDepth 100000 in
theorem zdX8_put : ∀ e ∈ zcX8_put, decode cX8_put e.1 = .ok (e.2.1, e.2.2) ∧ zgd e = true := by decide +kernel
set_option maxRecDepth 100000 in
theorem zwX8_put : zBG[156]? = some (.code yX8_put cX8_put 6 (some .int)) := by first | rfl | decide +kernel
set_option maxRecDepth 100000 in
theorem zdX8_count : ∀ e ∈ zcX8_count, decode cX8_count e.1 = .ok (e.2.1, e.2.2) ∧ zgd e = true := by decide +kernel
set_option maxRecDepth 100000 in
theorem zwX8_count : zBG[315]? = some (.code yX8_count cX8_count 2 (some .int)) := by first | rfl | decide +kernel
set_option maxRecDepth 100000 in
theorem zdX8_refusal : ∀ e ∈ zcX8_refusal, decode cX8_refusal e.1 = .ok (e.2.1, e.2.2) ∧ zgd e = true := by decide +kernel
set_option maxRecDepth 100000 in
theorem zwX8_refusal : zBG[306]? = some (.code yX8_refusal cX8_refusal 1 (some .long)) := by first | rfl | decide +kernel
set_option maxRecDepth 100000 in
theorem zdX8_isWithin : ∀ e ∈ zcX8_isWithin, decode cX8_isWithin e.1 = .ok (e.2.1, e.2.2) ∧ zgd e = true := by decide +kernel
set_option maxRecDepth 100000 in
theorem zwX8_isWithin : zBG[193]? = some (.code yX8_isWithin cX8_isWithin 2 (some .boolean)) := by first | rfl | decide +kernel
set_option maxRecDepth 100000 in
theorem zdX8_isTriplePart : ∀ e ∈ zcX8_isTriplePart, decode cX8_isTriplePart e.1 = .ok (e.2.1, e.2.2) ∧ zgd e = true := by decide +kernel
set_option maxRecDepth 100000 in
theorem zwX8_isTriplePart : zBG[303]? = some (.code yX8_isTriplePart cX8_isTriplePart 1 (some .boolean)) := by first | rfl | decide +kernel
set_option maxRecDepth 100000 in
theorem zdX8_isSheet : ∀ e ∈ zcX8_isSheet, decode cX8_isSheet e.1 = .ok (e.2.1, e.2.2) ∧ zgd e = true := by decide +kernel
set_option maxRecDepth 100000 in
theorem zwX8_isSheet : zBG[132]? = some (.code yX8_isSheet cX8_isSheet 1 (some .boolean)) := by first | rfl | decide +kernel
set_option maxRecDepth 100000 in
theorem zdX8_isForm : ∀ e ∈ zcX8_isForm, decode cX8_isForm e.1 = .ok (e.2.1, e.2.2) ∧ zgd e = true := by decide +kernel
set_option maxRecDepth 100000 in
theorem zwX8_isForm : zBG[135]? = some (.code yX8_isForm cX8_isForm 1 (some .boolean)) := by first | rfl | decide +kernel
set_option maxRecDepth 100000 in
theorem zdX8_isStand : ∀ e ∈ zcX8_isStand, decode cX8_isStand e.1 = .ok (e.2.1, e.2.2) ∧ zgd e = true := by decide +kernel
set_option maxRecDepth 100000 in
theorem zwX8_isStand : zBG[221]? = some (.code yX8_isStand cX8_isStand 3 (some .boolean)) := by first | rfl | decide +kernel
set_option maxRecDepth 100000 in
theorem zdX8_isFinger : ∀ e ∈ zcX8_isFinger, decode cX8_isFinger e.1 = .ok (e.2.1, e.2.2) ∧ zgd e = true := by decide +kernel
set_option maxRecDepth 100000 in
theorem zwX8_isFinger : zBG[366]? = some (.code yX8_isFinger cX8_isFinger 2 (some .boolean)) := by first | rfl | decide +kernel
set_option maxRecDepth 100000 in
theorem zdX8_item : ∀ e ∈ zcX8_item, decode cX8_item e.1 = .ok (e.2.1, e.2.2) ∧ zgd e = true := by decide +kernel
set_option maxRecDepth 100000 in
theorem zwX8_item : zBG[75]? = some (.code yX8_item cX8_item 2 (some .int)) := by first | rfl | decide +kernel
set_option maxRecDepth 100000 in
theorem zdX8_setItem : ∀ e ∈ zcX8_setItem, decode cX8_setItem e.1 = .ok (e.2.1, e.2.2) ∧ zgd e = true := by decide +kernel
set_option maxRecDepth 100000 in
theorem zwX8_setItem : zBG[57]? = some (.code yX8_setItem cX8_setItem 3 none) := by first | rfl | decide +kernel
set_option maxRecDepth 100000 in
theorem zdJ6_bitCount_0f7a4 : ∀ e ∈ zcJ6_bitCount_0f7a4, decode cJ6_bitCount_0f7a4 e.1 = .ok (e.2.1, e.2.2) ∧ zgd e = true := by decide +kernel
set_option maxRecDepth 100000 in
theorem zwJ6_bitCount_0f7a4 : zBG[342]? = some (.code yJ6_bitCount_0f7a4 cJ6_bitCount_0f7a4 1 (some .int)) := by first | rfl | decide +kernel
set_option maxRecDepth 100000 in
theorem zdL_cell : ∀ e ∈ zcL_cell, decode cL_cell e.1 = .ok (e.2.1, e.2.2) ∧ zgd e = true := by decide +kernel
set_option maxRecDepth 100000 in
theorem zwL_cell : zBG[147]? = some (.code yL_cell cL_cell 2 (some .int)) := by first | rfl | decide +kernel
set_option maxRecDepth 100000 in
theorem zdL_up : ∀ e ∈ zcL_up, decode cL_up e.1 = .ok (e.2.1, e.2.2) ∧ zgd e = true := by decide +kernel
set_option maxRecDepth 100000 in
theorem zwL_up : zBG[151]? = some (.code yL_up cL_up 2 (some .int)) := by first | rfl | decide +kernel
set_option maxRecDepth 100000 in
theorem zdL_shape : ∀ e ∈ zcL_shape, decode cL_shape e.1 = .ok (e.2.1, e.2.2) ∧ zgd e = true := by decide +kernel
set_option maxRecDepth 100000 in
theorem zwL_shape : zBG[125]? = some (.code yL_shape cL_shape 9 (some .int)) := by first | rfl | decide +kernel
set_option maxRecDepth 100000 in
theorem zdJ9_max_7cf53 : ∀ e ∈ zcJ9_max_7cf53, decode Lib.Math.max.code e.1 = .ok (e.2.1, e.2.2) ∧ zgd e = true := by decide +kernel
set_option maxRecDepth 100000 in
theorem zwJ9_max_7cf53 : zBG[426]? = some (.code Lib.Math.max.name Lib.Math.max.code 2 (some .int)) := by first | rfl | decide +kernel
set_option maxRecDepth 100000 in
theorem zdJ9_min_7cf53 : ∀ e ∈ zcJ9_min_7cf53, decode Lib.Math.min.code e.1 = .ok (e.2.1, e.2.2) ∧ zgd e = true := by decide +kernel
set_option maxRecDepth 100000 in
theorem zwJ9_min_7cf53 : zBG[429]? = some (.code Lib.Math.min.name Lib.Math.min.code 2 (some .int)) := by first | rfl | decide +kernel
set_option maxRecDepth 100000 in
theorem zdL_law_0 : ∀ e ∈ zcL_law_0, decode cL_law e.1 = .ok (e.2.1, e.2.2) ∧ zgd e = true := by decide +kernel
set_option maxRecDepth 100000 in
theorem zdL_law_1 : ∀ e ∈ zcL_law_1, decode cL_law e.1 = .ok (e.2.1, e.2.2) ∧ zgd e = true := by decide +kernel
set_option maxRecDepth 100000 in
theorem zdL_law_2 : ∀ e ∈ zcL_law_2, decode cL_law e.1 = .ok (e.2.1, e.2.2) ∧ zgd e = true := by decide +kernel
set_option maxRecDepth 100000 in
theorem zdL_law_3 : ∀ e ∈ zcL_law_3, decode cL_law e.1 = .ok (e.2.1, e.2.2) ∧ zgd e = true := by decide +kernel
set_option maxRecDepth 100000 in
theorem zdL_law_4 : ∀ e ∈ zcL_law_4, decode cL_law e.1 = .ok (e.2.1, e.2.2) ∧ zgd e = true := by decide +kernel
set_option maxRecDepth 100000 in
theorem zdL_law_5 : ∀ e ∈ zcL_law_5, decode cL_law e.1 = .ok (e.2.1, e.2.2) ∧ zgd e = true := by decide +kernel
set_option maxRecDepth 100000 in
theorem zdL_law_6 : ∀ e ∈ zcL_law_6, decode cL_law e.1 = .ok (e.2.1, e.2.2) ∧ zgd e = true := by decide +kernel
set_option maxRecDepth 100000 in
theorem zdL_law_7 : ∀ e ∈ zcL_law_7, decode cL_law e.1 = .ok (e.2.1, e.2.2) ∧ zgd e = true := by decide +kernel
theorem zdL_law : ∀ e ∈ zcL_law, decode cL_law e.1 = .ok (e.2.1, e.2.2) ∧ zgd e = true := (List.forall_mem_append.mpr ⟨zdL_law_0, (List.forall_mem_append.mpr ⟨zdL_law_1, (List.forall_mem_append.mpr ⟨zdL_law_2, (List.forall_mem_append.mpr ⟨zdL_law_3, (List.forall_mem_append.mpr ⟨zdL_law_4, (List.forall_mem_append.mpr ⟨zdL_law_5, (List.forall_mem_append.mpr ⟨zdL_law_6, zdL_law_7⟩)⟩)⟩)⟩)⟩)⟩)⟩)
