theorem rq_b_0 : pc_b_0 0 ([(2, 158), (9, 0), (9, 0), (9, 0), (9, 0)], 159, [rw_0, rw_1, rw_2, rw_3, rw_4, rw_5, rw_6]) = some (0, [], ([(2, 158), (2, 46), (0, 64), (0, 13), (0, 64)], 243, [rw_0, rw_1, rw_2, rw_3, rw_4, rw_5, rw_7, rw_8, rw_9, rw_10, rw_11, rw_12, rw_13])) := eqR_ok rp_b_0
def pc_b_1 : tF := (q36 (q8 cm_304 (q58 (q2 0 2) q30)))
theorem rq_b_1 : pc_b_1 0 ([(2, 158), (2, 46), (0, 64), (0, 13), (0, 64)], 243, [rw_0, rw_1, rw_2, rw_3, rw_4, rw_5, rw_7, rw_8, rw_9, rw_10, rw_11, rw_12, rw_13]) = some (0, [], ([(2, 158), (2, 46), (0, 64), (0, 13), (0, 64)], 331, [rw_0, rw_1, rw_2, rw_3, rw_4, rw_5, rw_39, rw_8, rw_9, rw_40, rw_11, rw_12, rw_22, rw_26, rw_30, rw_31, rw_35, rw_41])) := q36_call (vs := [158]) rfl rm_c
theorem rb_b {s : tS} : cf_249 0 s = (q31 pc_b_0 (q31 pc_b_1 q48)) 0 s := by
  simp only [cf_249, pc_b_0, pc_b_1, q31_as]
theorem rf_b : cf_249 0 ([(2, 158), (9, 0), (9, 0), (9, 0), (9, 0)], 159, [rw_0, rw_1, rw_2, rw_3, rw_4, rw_5, rw_6]) = some (3, [], ([(2, 158), (2, 46), (0, 64), (0, 13), (0, 64)], 331, [rw_0, rw_1, rw_2, rw_3, rw_4, rw_5, rw_39, rw_8, rw_9, rw_40, rw_11, rw_12, rw_22, rw_26, rw_30, rw_31, rw_35, rw_41])) := by
  rw [rb_b]
  rw [q31_s rq_b_0]
  rw [q31_s rq_b_1]
  rfl
theorem rm_b : cm_249 [158] 159 [rw_0, rw_1, rw_2, rw_3, rw_4, rw_5, rw_6] = some ([], 331, [rw_0, rw_1, rw_2, rw_3, rw_4, rw_5, rw_39, rw_8, rw_9, rw_40, rw_11, rw_12, rw_22, rw_26, rw_30, rw_31, rw_35, rw_41]) := qm_end rfl rfl rf_b rfl
