/-! what lies at each address, printed by wip/whole/gen_facts.py -/
section FACTS
variable {S : st_S} {V : st_V} {x v : Int32}
theorem i_0 : am_is (hs S V) 0 8 = true := hs_is rfl
theorem g_0_0 : am_get (hs S V) 0 8 0 = some (.ref 1) := hs_getr rfl rfl
theorem g_0_1 : am_get (hs S V) 0 8 1 = some (.ref 71) := hs_getr rfl rfl
theorem g_0_2 : am_get (hs S V) 0 8 2 = some (.ref 72) := hs_getr rfl rfl
theorem g_0_3 : am_get (hs S V) 0 8 3 = some (.ref 88) := hs_getr rfl rfl
theorem g_0_4 : am_get (hs S V) 0 8 4 = some (.ref 89) := hs_getr rfl rfl
theorem g_0_5 : am_get (hs S V) 0 8 5 = some (.ref 91) := hs_getr rfl rfl
theorem i_1 : am_is (hs S V) 1 4 = true := hs_is rfl
theorem g_1_0 : am_get (hs S V) 1 4 0 = some (.ref 2) := hs_getr rfl rfl
theorem g_1_1 : am_get (hs S V) 1 4 1 = some (.ref 63) := hs_getr rfl rfl
theorem g_1_2 : am_get (hs S V) 1 4 2 = some (.int (S 1 2)) := hs_get rfl rfl
theorem p_1_2 : am_put (hs S V) 1 4 2 (.int v) = some (hs (uS S 1 2 v) V) := hs_put rfl rfl
theorem g_1_3 : am_get (hs S V) 1 4 3 = some (.int (S 1 3)) := hs_get rfl rfl
theorem p_1_3 : am_put (hs S V) 1 4 3 (.int v) = some (hs (uS S 1 3 v) V) := hs_put rfl rfl
theorem g_1_4 : am_get (hs S V) 1 4 4 = some (.int (S 1 4)) := hs_get rfl rfl
theorem p_1_4 : am_put (hs S V) 1 4 4 (.int v) = some (hs (uS S 1 4 v) V) := hs_put rfl rfl
theorem g_1_5 : am_get (hs S V) 1 4 5 = some (.ref 68) := hs_getr rfl rfl
theorem q_2_0 : am_ldq (hs S V) 2 0 = some (.ref 3) := hs_ldq rfl rfl (by decide) rfl
theorem q_2_1 : am_ldq (hs S V) 2 1 = some (.ref 18) := hs_ldq rfl rfl (by decide) rfl
theorem q_2_2 : am_ldq (hs S V) 2 2 = some (.ref 33) := hs_ldq rfl rfl (by decide) rfl
theorem q_2_3 : am_ldq (hs S V) 2 3 = some (.ref 48) := hs_ldq rfl rfl (by decide) rfl
theorem i_3 : am_is (hs S V) 3 2 = true := hs_is rfl
theorem g_3_0 : am_get (hs S V) 3 2 0 = some (.int (S 3 0)) := hs_get rfl rfl
theorem p_3_0 : am_put (hs S V) 3 2 0 (.int v) = some (hs (uS S 3 0 v) V) := hs_put rfl rfl
theorem g_3_1 : am_get (hs S V) 3 2 1 = some (.int (S 3 1)) := hs_get rfl rfl
theorem p_3_1 : am_put (hs S V) 3 2 1 (.int v) = some (hs (uS S 3 1 v) V) := hs_put rfl rfl
theorem g_3_2 : am_get (hs S V) 3 2 2 = some (.int (S 3 2)) := hs_get rfl rfl
theorem p_3_2 : am_put (hs S V) 3 2 2 (.int v) = some (hs (uS S 3 2 v) V) := hs_put rfl rfl
theorem g_3_3 : am_get (hs S V) 3 2 3 = some (.int (S 3 3)) := hs_get rfl rfl
theorem p_3_3 : am_put (hs S V) 3 2 3 (.int v) = some (hs (uS S 3 3 v) V) := hs_put rfl rfl
theorem g_3_4 : am_get (hs S V) 3 2 4 = some (.int (S 3 4)) := hs_get rfl rfl
theorem p_3_4 : am_put (hs S V) 3 2 4 (.int v) = some (hs (uS S 3 4 v) V) := hs_put rfl rfl
theorem g_3_5 : am_get (hs S V) 3 2 5 = some (.int (S 3 5)) := hs_get rfl rfl
theorem p_3_5 : am_put (hs S V) 3 2 5 (.int v) = some (hs (uS S 3 5 v) V) := hs_put rfl rfl
theorem g_3_6 : am_get (hs S V) 3 2 6 = some (.int (S 3 6)) := hs_get rfl rfl
theorem p_3_6 : am_put (hs S V) 3 2 6 (.int v) = some (hs (uS S 3 6 v) V) := hs_put rfl rfl
theorem g_3_7 : am_get (hs S V) 3 2 7 = some (.int (S 3 7)) := hs_get rfl rfl
theorem p_3_7 : am_put (hs S V) 3 2 7 (.int v) = some (hs (uS S 3 7 v) V) := hs_put rfl rfl
theorem g_3_8 : am_get (hs S V) 3 2 8 = some (.int (S 3 8)) := hs_get rfl rfl
theorem p_3_8 : am_put (hs S V) 3 2 8 (.int v) = some (hs (uS S 3 8 v) V) := hs_put rfl rfl
theorem g_3_9 : am_get (hs S V) 3 2 9 = some (.int (S 3 9)) := hs_get rfl rfl
theorem p_3_9 : am_put (hs S V) 3 2 9 (.int v) = some (hs (uS S 3 9 v) V) := hs_put rfl rfl
theorem g_3_10 : am_get (hs S V) 3 2 10 = some (.int (S 3 10)) := hs_get rfl rfl
theorem p_3_10 : am_put (hs S V) 3 2 10 (.int v) = some (hs (uS S 3 10 v) V) := hs_put rfl rfl
theorem g_3_11 : am_get (hs S V) 3 2 11 = some (.int (S 3 11)) := hs_get rfl rfl
theorem p_3_11 : am_put (hs S V) 3 2 11 (.int v) = some (hs (uS S 3 11 v) V) := hs_put rfl rfl
theorem g_3_12 : am_get (hs S V) 3 2 12 = some (.ref 4) := hs_getr rfl rfl
theorem g_3_13 : am_get (hs S V) 3 2 13 = some (.ref 11) := hs_getr rfl rfl
theorem g_3_14 : am_get (hs S V) 3 2 14 = some (.int (S 3 14)) := hs_get rfl rfl
theorem p_3_14 : am_put (hs S V) 3 2 14 (.int v) = some (hs (uS S 3 14 v) V) := hs_put rfl rfl
theorem g_3_15 : am_get (hs S V) 3 2 15 = some (.ref 14) := hs_getr rfl rfl
theorem g_3_16 : am_get (hs S V) 3 2 16 = some (.ref 16) := hs_getr rfl rfl
theorem g_3_17 : am_get (hs S V) 3 2 17 = some (.int (S 3 17)) := hs_get rfl rfl
theorem p_3_17 : am_put (hs S V) 3 2 17 (.int v) = some (hs (uS S 3 17 v) V) := hs_put rfl rfl
theorem q_4_0 : am_ldq (hs S V) 4 0 = some (.ref 5) := hs_ldq rfl rfl (by decide) rfl
theorem q_4_1 : am_ldq (hs S V) 4 1 = some (.ref 7) := hs_ldq rfl rfl (by decide) rfl
theorem q_4_2 : am_ldq (hs S V) 4 2 = some (.ref 9) := hs_ldq rfl rfl (by decide) rfl
theorem i_5 : am_is (hs S V) 5 0 = true := hs_is rfl
theorem g_5_0 : am_get (hs S V) 5 0 0 = some (.ref 6) := hs_getr rfl rfl
theorem g_5_1 : am_get (hs S V) 5 0 1 = some (.int (S 5 1)) := hs_get rfl rfl
theorem p_5_1 : am_put (hs S V) 5 0 1 (.int v) = some (hs (uS S 5 1 v) V) := hs_put rfl rfl
theorem l_6 (hx : ¬ x < 0) : am_ld (hs S V) 6 0 x = (V 6)[x.toNatClampNeg]? := hs_ld rfl hx
theorem s_6 (hx : ¬ x < 0) (hl : x.toNatClampNeg < (V 6).length) : am_sv (hs S V) 6 0 x v = some (hs S (uV V 6 ((V 6).set x.toNatClampNeg v))) := hs_sv rfl hx hl
theorem i_7 : am_is (hs S V) 7 0 = true := hs_is rfl
theorem g_7_0 : am_get (hs S V) 7 0 0 = some (.ref 8) := hs_getr rfl rfl
theorem g_7_1 : am_get (hs S V) 7 0 1 = some (.int (S 7 1)) := hs_get rfl rfl
theorem p_7_1 : am_put (hs S V) 7 0 1 (.int v) = some (hs (uS S 7 1 v) V) := hs_put rfl rfl
theorem l_8 (hx : ¬ x < 0) : am_ld (hs S V) 8 0 x = (V 8)[x.toNatClampNeg]? := hs_ld rfl hx
theorem s_8 (hx : ¬ x < 0) (hl : x.toNatClampNeg < (V 8).length) : am_sv (hs S V) 8 0 x v = some (hs S (uV V 8 ((V 8).set x.toNatClampNeg v))) := hs_sv rfl hx hl
theorem i_9 : am_is (hs S V) 9 0 = true := hs_is rfl
theorem g_9_0 : am_get (hs S V) 9 0 0 = some (.ref 10) := hs_getr rfl rfl
theorem g_9_1 : am_get (hs S V) 9 0 1 = some (.int (S 9 1)) := hs_get rfl rfl
theorem p_9_1 : am_put (hs S V) 9 0 1 (.int v) = some (hs (uS S 9 1 v) V) := hs_put rfl rfl
theorem l_10 (hx : ¬ x < 0) : am_ld (hs S V) 10 0 x = (V 10)[x.toNatClampNeg]? := hs_ld rfl hx
theorem s_10 (hx : ¬ x < 0) (hl : x.toNatClampNeg < (V 10).length) : am_sv (hs S V) 10 0 x v = some (hs S (uV V 10 ((V 10).set x.toNatClampNeg v))) := hs_sv rfl hx hl
theorem i_11 : am_is (hs S V) 11 1 = true := hs_is rfl
theorem g_11_0 : am_get (hs S V) 11 1 0 = some (.int (S 11 0)) := hs_get rfl rfl
theorem p_11_0 : am_put (hs S V) 11 1 0 (.int v) = some (hs (uS S 11 0 v) V) := hs_put rfl rfl
theorem g_11_1 : am_get (hs S V) 11 1 1 = some (.int (S 11 1)) := hs_get rfl rfl
theorem p_11_1 : am_put (hs S V) 11 1 1 (.int v) = some (hs (uS S 11 1 v) V) := hs_put rfl rfl
theorem g_11_2 : am_get (hs S V) 11 1 2 = some (.int (S 11 2)) := hs_get rfl rfl
theorem p_11_2 : am_put (hs S V) 11 1 2 (.int v) = some (hs (uS S 11 2 v) V) := hs_put rfl rfl
theorem g_11_3 : am_get (hs S V) 11 1 3 = some (.ref 12) := hs_getr rfl rfl
theorem i_12 : am_is (hs S V) 12 0 = true := hs_is rfl
theorem g_12_0 : am_get (hs S V) 12 0 0 = some (.ref 13) := hs_getr rfl rfl
theorem g_12_1 : am_get (hs S V) 12 0 1 = some (.int (S 12 1)) := hs_get rfl rfl
theorem p_12_1 : am_put (hs S V) 12 0 1 (.int v) = some (hs (uS S 12 1 v) V) := hs_put rfl rfl
theorem l_13 (hx : ¬ x < 0) : am_ld (hs S V) 13 0 x = (V 13)[x.toNatClampNeg]? := hs_ld rfl hx
theorem s_13 (hx : ¬ x < 0) (hl : x.toNatClampNeg < (V 13).length) : am_sv (hs S V) 13 0 x v = some (hs S (uV V 13 ((V 13).set x.toNatClampNeg v))) := hs_sv rfl hx hl
theorem i_14 : am_is (hs S V) 14 0 = true := hs_is rfl
theorem g_14_0 : am_get (hs S V) 14 0 0 = some (.ref 15) := hs_getr rfl rfl
theorem g_14_1 : am_get (hs S V) 14 0 1 = some (.int (S 14 1)) := hs_get rfl rfl
theorem p_14_1 : am_put (hs S V) 14 0 1 (.int v) = some (hs (uS S 14 1 v) V) := hs_put rfl rfl
theorem l_15 (hx : ¬ x < 0) : am_ld (hs S V) 15 0 x = (V 15)[x.toNatClampNeg]? := hs_ld rfl hx
theorem s_15 (hx : ¬ x < 0) (hl : x.toNatClampNeg < (V 15).length) : am_sv (hs S V) 15 0 x v = some (hs S (uV V 15 ((V 15).set x.toNatClampNeg v))) := hs_sv rfl hx hl
theorem i_16 : am_is (hs S V) 16 0 = true := hs_is rfl
theorem g_16_0 : am_get (hs S V) 16 0 0 = some (.ref 17) := hs_getr rfl rfl
theorem g_16_1 : am_get (hs S V) 16 0 1 = some (.int (S 16 1)) := hs_get rfl rfl
theorem p_16_1 : am_put (hs S V) 16 0 1 (.int v) = some (hs (uS S 16 1 v) V) := hs_put rfl rfl
theorem l_17 (hx : ¬ x < 0) : am_ld (hs S V) 17 0 x = (V 17)[x.toNatClampNeg]? := hs_ld rfl hx
theorem s_17 (hx : ¬ x < 0) (hl : x.toNatClampNeg < (V 17).length) : am_sv (hs S V) 17 0 x v = some (hs S (uV V 17 ((V 17).set x.toNatClampNeg v))) := hs_sv rfl hx hl
theorem i_18 : am_is (hs S V) 18 2 = true := hs_is rfl
theorem g_18_0 : am_get (hs S V) 18 2 0 = some (.int (S 18 0)) := hs_get rfl rfl
theorem p_18_0 : am_put (hs S V) 18 2 0 (.int v) = some (hs (uS S 18 0 v) V) := hs_put rfl rfl
theorem g_18_1 : am_get (hs S V) 18 2 1 = some (.int (S 18 1)) := hs_get rfl rfl
theorem p_18_1 : am_put (hs S V) 18 2 1 (.int v) = some (hs (uS S 18 1 v) V) := hs_put rfl rfl
theorem g_18_2 : am_get (hs S V) 18 2 2 = some (.int (S 18 2)) := hs_get rfl rfl
theorem p_18_2 : am_put (hs S V) 18 2 2 (.int v) = some (hs (uS S 18 2 v) V) := hs_put rfl rfl
theorem g_18_3 : am_get (hs S V) 18 2 3 = some (.int (S 18 3)) := hs_get rfl rfl
theorem p_18_3 : am_put (hs S V) 18 2 3 (.int v) = some (hs (uS S 18 3 v) V) := hs_put rfl rfl
theorem g_18_4 : am_get (hs S V) 18 2 4 = some (.int (S 18 4)) := hs_get rfl rfl
theorem p_18_4 : am_put (hs S V) 18 2 4 (.int v) = some (hs (uS S 18 4 v) V) := hs_put rfl rfl
theorem g_18_5 : am_get (hs S V) 18 2 5 = some (.int (S 18 5)) := hs_get rfl rfl
theorem p_18_5 : am_put (hs S V) 18 2 5 (.int v) = some (hs (uS S 18 5 v) V) := hs_put rfl rfl
theorem g_18_6 : am_get (hs S V) 18 2 6 = some (.int (S 18 6)) := hs_get rfl rfl
theorem p_18_6 : am_put (hs S V) 18 2 6 (.int v) = some (hs (uS S 18 6 v) V) := hs_put rfl rfl
theorem g_18_7 : am_get (hs S V) 18 2 7 = some (.int (S 18 7)) := hs_get rfl rfl
theorem p_18_7 : am_put (hs S V) 18 2 7 (.int v) = some (hs (uS S 18 7 v) V) := hs_put rfl rfl
theorem g_18_8 : am_get (hs S V) 18 2 8 = some (.int (S 18 8)) := hs_get rfl rfl
theorem p_18_8 : am_put (hs S V) 18 2 8 (.int v) = some (hs (uS S 18 8 v) V) := hs_put rfl rfl
theorem g_18_9 : am_get (hs S V) 18 2 9 = some (.int (S 18 9)) := hs_get rfl rfl
theorem p_18_9 : am_put (hs S V) 18 2 9 (.int v) = some (hs (uS S 18 9 v) V) := hs_put rfl rfl
theorem g_18_10 : am_get (hs S V) 18 2 10 = some (.int (S 18 10)) := hs_get rfl rfl
theorem p_18_10 : am_put (hs S V) 18 2 10 (.int v) = some (hs (uS S 18 10 v) V) := hs_put rfl rfl
theorem g_18_11 : am_get (hs S V) 18 2 11 = some (.int (S 18 11)) := hs_get rfl rfl
theorem p_18_11 : am_put (hs S V) 18 2 11 (.int v) = some (hs (uS S 18 11 v) V) := hs_put rfl rfl
theorem g_18_12 : am_get (hs S V) 18 2 12 = some (.ref 19) := hs_getr rfl rfl
theorem g_18_13 : am_get (hs S V) 18 2 13 = some (.ref 26) := hs_getr rfl rfl
theorem g_18_14 : am_get (hs S V) 18 2 14 = some (.int (S 18 14)) := hs_get rfl rfl
theorem p_18_14 : am_put (hs S V) 18 2 14 (.int v) = some (hs (uS S 18 14 v) V) := hs_put rfl rfl
theorem g_18_15 : am_get (hs S V) 18 2 15 = some (.ref 29) := hs_getr rfl rfl
theorem g_18_16 : am_get (hs S V) 18 2 16 = some (.ref 31) := hs_getr rfl rfl
theorem g_18_17 : am_get (hs S V) 18 2 17 = some (.int (S 18 17)) := hs_get rfl rfl
theorem p_18_17 : am_put (hs S V) 18 2 17 (.int v) = some (hs (uS S 18 17 v) V) := hs_put rfl rfl
theorem q_19_0 : am_ldq (hs S V) 19 0 = some (.ref 20) := hs_ldq rfl rfl (by decide) rfl
theorem q_19_1 : am_ldq (hs S V) 19 1 = some (.ref 22) := hs_ldq rfl rfl (by decide) rfl
theorem q_19_2 : am_ldq (hs S V) 19 2 = some (.ref 24) := hs_ldq rfl rfl (by decide) rfl
theorem i_20 : am_is (hs S V) 20 0 = true := hs_is rfl
theorem g_20_0 : am_get (hs S V) 20 0 0 = some (.ref 21) := hs_getr rfl rfl
theorem g_20_1 : am_get (hs S V) 20 0 1 = some (.int (S 20 1)) := hs_get rfl rfl
theorem p_20_1 : am_put (hs S V) 20 0 1 (.int v) = some (hs (uS S 20 1 v) V) := hs_put rfl rfl
theorem l_21 (hx : ¬ x < 0) : am_ld (hs S V) 21 0 x = (V 21)[x.toNatClampNeg]? := hs_ld rfl hx
theorem s_21 (hx : ¬ x < 0) (hl : x.toNatClampNeg < (V 21).length) : am_sv (hs S V) 21 0 x v = some (hs S (uV V 21 ((V 21).set x.toNatClampNeg v))) := hs_sv rfl hx hl
theorem i_22 : am_is (hs S V) 22 0 = true := hs_is rfl
theorem g_22_0 : am_get (hs S V) 22 0 0 = some (.ref 23) := hs_getr rfl rfl
theorem g_22_1 : am_get (hs S V) 22 0 1 = some (.int (S 22 1)) := hs_get rfl rfl
theorem p_22_1 : am_put (hs S V) 22 0 1 (.int v) = some (hs (uS S 22 1 v) V) := hs_put rfl rfl
theorem l_23 (hx : ¬ x < 0) : am_ld (hs S V) 23 0 x = (V 23)[x.toNatClampNeg]? := hs_ld rfl hx
theorem s_23 (hx : ¬ x < 0) (hl : x.toNatClampNeg < (V 23).length) : am_sv (hs S V) 23 0 x v = some (hs S (uV V 23 ((V 23).set x.toNatClampNeg v))) := hs_sv rfl hx hl
theorem i_24 : am_is (hs S V) 24 0 = true := hs_is rfl
theorem g_24_0 : am_get (hs S V) 24 0 0 = some (.ref 25) := hs_getr rfl rfl
theorem g_24_1 : am_get (hs S V) 24 0 1 = some (.int (S 24 1)) := hs_get rfl rfl
theorem p_24_1 : am_put (hs S V) 24 0 1 (.int v) = some (hs (uS S 24 1 v) V) := hs_put rfl rfl
theorem l_25 (hx : ¬ x < 0) : am_ld (hs S V) 25 0 x = (V 25)[x.toNatClampNeg]? := hs_ld rfl hx
theorem s_25 (hx : ¬ x < 0) (hl : x.toNatClampNeg < (V 25).length) : am_sv (hs S V) 25 0 x v = some (hs S (uV V 25 ((V 25).set x.toNatClampNeg v))) := hs_sv rfl hx hl
theorem i_26 : am_is (hs S V) 26 1 = true := hs_is rfl
theorem g_26_0 : am_get (hs S V) 26 1 0 = some (.int (S 26 0)) := hs_get rfl rfl
theorem p_26_0 : am_put (hs S V) 26 1 0 (.int v) = some (hs (uS S 26 0 v) V) := hs_put rfl rfl
theorem g_26_1 : am_get (hs S V) 26 1 1 = some (.int (S 26 1)) := hs_get rfl rfl
theorem p_26_1 : am_put (hs S V) 26 1 1 (.int v) = some (hs (uS S 26 1 v) V) := hs_put rfl rfl
theorem g_26_2 : am_get (hs S V) 26 1 2 = some (.int (S 26 2)) := hs_get rfl rfl
theorem p_26_2 : am_put (hs S V) 26 1 2 (.int v) = some (hs (uS S 26 2 v) V) := hs_put rfl rfl
theorem g_26_3 : am_get (hs S V) 26 1 3 = some (.ref 27) := hs_getr rfl rfl
theorem i_27 : am_is (hs S V) 27 0 = true := hs_is rfl
theorem g_27_0 : am_get (hs S V) 27 0 0 = some (.ref 28) := hs_getr rfl rfl
theorem g_27_1 : am_get (hs S V) 27 0 1 = some (.int (S 27 1)) := hs_get rfl rfl
theorem p_27_1 : am_put (hs S V) 27 0 1 (.int v) = some (hs (uS S 27 1 v) V) := hs_put rfl rfl
theorem l_28 (hx : ¬ x < 0) : am_ld (hs S V) 28 0 x = (V 28)[x.toNatClampNeg]? := hs_ld rfl hx
theorem s_28 (hx : ¬ x < 0) (hl : x.toNatClampNeg < (V 28).length) : am_sv (hs S V) 28 0 x v = some (hs S (uV V 28 ((V 28).set x.toNatClampNeg v))) := hs_sv rfl hx hl
theorem i_29 : am_is (hs S V) 29 0 = true := hs_is rfl
theorem g_29_0 : am_get (hs S V) 29 0 0 = some (.ref 30) := hs_getr rfl rfl
theorem g_29_1 : am_get (hs S V) 29 0 1 = some (.int (S 29 1)) := hs_get rfl rfl
theorem p_29_1 : am_put (hs S V) 29 0 1 (.int v) = some (hs (uS S 29 1 v) V) := hs_put rfl rfl
theorem l_30 (hx : ¬ x < 0) : am_ld (hs S V) 30 0 x = (V 30)[x.toNatClampNeg]? := hs_ld rfl hx
theorem s_30 (hx : ¬ x < 0) (hl : x.toNatClampNeg < (V 30).length) : am_sv (hs S V) 30 0 x v = some (hs S (uV V 30 ((V 30).set x.toNatClampNeg v))) := hs_sv rfl hx hl
theorem i_31 : am_is (hs S V) 31 0 = true := hs_is rfl
theorem g_31_0 : am_get (hs S V) 31 0 0 = some (.ref 32) := hs_getr rfl rfl
theorem g_31_1 : am_get (hs S V) 31 0 1 = some (.int (S 31 1)) := hs_get rfl rfl
theorem p_31_1 : am_put (hs S V) 31 0 1 (.int v) = some (hs (uS S 31 1 v) V) := hs_put rfl rfl
theorem l_32 (hx : ¬ x < 0) : am_ld (hs S V) 32 0 x = (V 32)[x.toNatClampNeg]? := hs_ld rfl hx
theorem s_32 (hx : ¬ x < 0) (hl : x.toNatClampNeg < (V 32).length) : am_sv (hs S V) 32 0 x v = some (hs S (uV V 32 ((V 32).set x.toNatClampNeg v))) := hs_sv rfl hx hl
theorem i_33 : am_is (hs S V) 33 2 = true := hs_is rfl
theorem g_33_0 : am_get (hs S V) 33 2 0 = some (.int (S 33 0)) := hs_get rfl rfl
theorem p_33_0 : am_put (hs S V) 33 2 0 (.int v) = some (hs (uS S 33 0 v) V) := hs_put rfl rfl
theorem g_33_1 : am_get (hs S V) 33 2 1 = some (.int (S 33 1)) := hs_get rfl rfl
theorem p_33_1 : am_put (hs S V) 33 2 1 (.int v) = some (hs (uS S 33 1 v) V) := hs_put rfl rfl
theorem g_33_2 : am_get (hs S V) 33 2 2 = some (.int (S 33 2)) := hs_get rfl rfl
theorem p_33_2 : am_put (hs S V) 33 2 2 (.int v) = some (hs (uS S 33 2 v) V) := hs_put rfl rfl
theorem g_33_3 : am_get (hs S V) 33 2 3 = some (.int (S 33 3)) := hs_get rfl rfl
theorem p_33_3 : am_put (hs S V) 33 2 3 (.int v) = some (hs (uS S 33 3 v) V) := hs_put rfl rfl
theorem g_33_4 : am_get (hs S V) 33 2 4 = some (.int (S 33 4)) := hs_get rfl rfl
theorem p_33_4 : am_put (hs S V) 33 2 4 (.int v) = some (hs (uS S 33 4 v) V) := hs_put rfl rfl
theorem g_33_5 : am_get (hs S V) 33 2 5 = some (.int (S 33 5)) := hs_get rfl rfl
theorem p_33_5 : am_put (hs S V) 33 2 5 (.int v) = some (hs (uS S 33 5 v) V) := hs_put rfl rfl
theorem g_33_6 : am_get (hs S V) 33 2 6 = some (.int (S 33 6)) := hs_get rfl rfl
theorem p_33_6 : am_put (hs S V) 33 2 6 (.int v) = some (hs (uS S 33 6 v) V) := hs_put rfl rfl
theorem g_33_7 : am_get (hs S V) 33 2 7 = some (.int (S 33 7)) := hs_get rfl rfl
theorem p_33_7 : am_put (hs S V) 33 2 7 (.int v) = some (hs (uS S 33 7 v) V) := hs_put rfl rfl
theorem g_33_8 : am_get (hs S V) 33 2 8 = some (.int (S 33 8)) := hs_get rfl rfl
theorem p_33_8 : am_put (hs S V) 33 2 8 (.int v) = some (hs (uS S 33 8 v) V) := hs_put rfl rfl
theorem g_33_9 : am_get (hs S V) 33 2 9 = some (.int (S 33 9)) := hs_get rfl rfl
theorem p_33_9 : am_put (hs S V) 33 2 9 (.int v) = some (hs (uS S 33 9 v) V) := hs_put rfl rfl
theorem g_33_10 : am_get (hs S V) 33 2 10 = some (.int (S 33 10)) := hs_get rfl rfl
theorem p_33_10 : am_put (hs S V) 33 2 10 (.int v) = some (hs (uS S 33 10 v) V) := hs_put rfl rfl
theorem g_33_11 : am_get (hs S V) 33 2 11 = some (.int (S 33 11)) := hs_get rfl rfl
theorem p_33_11 : am_put (hs S V) 33 2 11 (.int v) = some (hs (uS S 33 11 v) V) := hs_put rfl rfl
theorem g_33_12 : am_get (hs S V) 33 2 12 = some (.ref 34) := hs_getr rfl rfl
theorem g_33_13 : am_get (hs S V) 33 2 13 = some (.ref 41) := hs_getr rfl rfl
theorem g_33_14 : am_get (hs S V) 33 2 14 = some (.int (S 33 14)) := hs_get rfl rfl
theorem p_33_14 : am_put (hs S V) 33 2 14 (.int v) = some (hs (uS S 33 14 v) V) := hs_put rfl rfl
theorem g_33_15 : am_get (hs S V) 33 2 15 = some (.ref 44) := hs_getr rfl rfl
theorem g_33_16 : am_get (hs S V) 33 2 16 = some (.ref 46) := hs_getr rfl rfl
theorem g_33_17 : am_get (hs S V) 33 2 17 = some (.int (S 33 17)) := hs_get rfl rfl
theorem p_33_17 : am_put (hs S V) 33 2 17 (.int v) = some (hs (uS S 33 17 v) V) := hs_put rfl rfl
theorem q_34_0 : am_ldq (hs S V) 34 0 = some (.ref 35) := hs_ldq rfl rfl (by decide) rfl
theorem q_34_1 : am_ldq (hs S V) 34 1 = some (.ref 37) := hs_ldq rfl rfl (by decide) rfl
theorem q_34_2 : am_ldq (hs S V) 34 2 = some (.ref 39) := hs_ldq rfl rfl (by decide) rfl
theorem i_35 : am_is (hs S V) 35 0 = true := hs_is rfl
theorem g_35_0 : am_get (hs S V) 35 0 0 = some (.ref 36) := hs_getr rfl rfl
theorem g_35_1 : am_get (hs S V) 35 0 1 = some (.int (S 35 1)) := hs_get rfl rfl
theorem p_35_1 : am_put (hs S V) 35 0 1 (.int v) = some (hs (uS S 35 1 v) V) := hs_put rfl rfl
theorem l_36 (hx : ¬ x < 0) : am_ld (hs S V) 36 0 x = (V 36)[x.toNatClampNeg]? := hs_ld rfl hx
theorem s_36 (hx : ¬ x < 0) (hl : x.toNatClampNeg < (V 36).length) : am_sv (hs S V) 36 0 x v = some (hs S (uV V 36 ((V 36).set x.toNatClampNeg v))) := hs_sv rfl hx hl
theorem i_37 : am_is (hs S V) 37 0 = true := hs_is rfl
theorem g_37_0 : am_get (hs S V) 37 0 0 = some (.ref 38) := hs_getr rfl rfl
theorem g_37_1 : am_get (hs S V) 37 0 1 = some (.int (S 37 1)) := hs_get rfl rfl
theorem p_37_1 : am_put (hs S V) 37 0 1 (.int v) = some (hs (uS S 37 1 v) V) := hs_put rfl rfl
theorem l_38 (hx : ¬ x < 0) : am_ld (hs S V) 38 0 x = (V 38)[x.toNatClampNeg]? := hs_ld rfl hx
theorem s_38 (hx : ¬ x < 0) (hl : x.toNatClampNeg < (V 38).length) : am_sv (hs S V) 38 0 x v = some (hs S (uV V 38 ((V 38).set x.toNatClampNeg v))) := hs_sv rfl hx hl
theorem i_39 : am_is (hs S V) 39 0 = true := hs_is rfl
theorem g_39_0 : am_get (hs S V) 39 0 0 = some (.ref 40) := hs_getr rfl rfl
theorem g_39_1 : am_get (hs S V) 39 0 1 = some (.int (S 39 1)) := hs_get rfl rfl
theorem p_39_1 : am_put (hs S V) 39 0 1 (.int v) = some (hs (uS S 39 1 v) V) := hs_put rfl rfl
theorem l_40 (hx : ¬ x < 0) : am_ld (hs S V) 40 0 x = (V 40)[x.toNatClampNeg]? := hs_ld rfl hx
theorem s_40 (hx : ¬ x < 0) (hl : x.toNatClampNeg < (V 40).length) : am_sv (hs S V) 40 0 x v = some (hs S (uV V 40 ((V 40).set x.toNatClampNeg v))) := hs_sv rfl hx hl
theorem i_41 : am_is (hs S V) 41 1 = true := hs_is rfl
theorem g_41_0 : am_get (hs S V) 41 1 0 = some (.int (S 41 0)) := hs_get rfl rfl
theorem p_41_0 : am_put (hs S V) 41 1 0 (.int v) = some (hs (uS S 41 0 v) V) := hs_put rfl rfl
theorem g_41_1 : am_get (hs S V) 41 1 1 = some (.int (S 41 1)) := hs_get rfl rfl
theorem p_41_1 : am_put (hs S V) 41 1 1 (.int v) = some (hs (uS S 41 1 v) V) := hs_put rfl rfl
theorem g_41_2 : am_get (hs S V) 41 1 2 = some (.int (S 41 2)) := hs_get rfl rfl
theorem p_41_2 : am_put (hs S V) 41 1 2 (.int v) = some (hs (uS S 41 2 v) V) := hs_put rfl rfl
theorem g_41_3 : am_get (hs S V) 41 1 3 = some (.ref 42) := hs_getr rfl rfl
theorem i_42 : am_is (hs S V) 42 0 = true := hs_is rfl
theorem g_42_0 : am_get (hs S V) 42 0 0 = some (.ref 43) := hs_getr rfl rfl
theorem g_42_1 : am_get (hs S V) 42 0 1 = some (.int (S 42 1)) := hs_get rfl rfl
theorem p_42_1 : am_put (hs S V) 42 0 1 (.int v) = some (hs (uS S 42 1 v) V) := hs_put rfl rfl
theorem l_43 (hx : ¬ x < 0) : am_ld (hs S V) 43 0 x = (V 43)[x.toNatClampNeg]? := hs_ld rfl hx
theorem s_43 (hx : ¬ x < 0) (hl : x.toNatClampNeg < (V 43).length) : am_sv (hs S V) 43 0 x v = some (hs S (uV V 43 ((V 43).set x.toNatClampNeg v))) := hs_sv rfl hx hl
theorem i_44 : am_is (hs S V) 44 0 = true := hs_is rfl
theorem g_44_0 : am_get (hs S V) 44 0 0 = some (.ref 45) := hs_getr rfl rfl
theorem g_44_1 : am_get (hs S V) 44 0 1 = some (.int (S 44 1)) := hs_get rfl rfl
theorem p_44_1 : am_put (hs S V) 44 0 1 (.int v) = some (hs (uS S 44 1 v) V) := hs_put rfl rfl
theorem l_45 (hx : ¬ x < 0) : am_ld (hs S V) 45 0 x = (V 45)[x.toNatClampNeg]? := hs_ld rfl hx
theorem s_45 (hx : ¬ x < 0) (hl : x.toNatClampNeg < (V 45).length) : am_sv (hs S V) 45 0 x v = some (hs S (uV V 45 ((V 45).set x.toNatClampNeg v))) := hs_sv rfl hx hl
theorem i_46 : am_is (hs S V) 46 0 = true := hs_is rfl
theorem g_46_0 : am_get (hs S V) 46 0 0 = some (.ref 47) := hs_getr rfl rfl
theorem g_46_1 : am_get (hs S V) 46 0 1 = some (.int (S 46 1)) := hs_get rfl rfl
theorem p_46_1 : am_put (hs S V) 46 0 1 (.int v) = some (hs (uS S 46 1 v) V) := hs_put rfl rfl
theorem l_47 (hx : ¬ x < 0) : am_ld (hs S V) 47 0 x = (V 47)[x.toNatClampNeg]? := hs_ld rfl hx
theorem s_47 (hx : ¬ x < 0) (hl : x.toNatClampNeg < (V 47).length) : am_sv (hs S V) 47 0 x v = some (hs S (uV V 47 ((V 47).set x.toNatClampNeg v))) := hs_sv rfl hx hl
theorem i_48 : am_is (hs S V) 48 2 = true := hs_is rfl
theorem g_48_0 : am_get (hs S V) 48 2 0 = some (.int (S 48 0)) := hs_get rfl rfl
theorem p_48_0 : am_put (hs S V) 48 2 0 (.int v) = some (hs (uS S 48 0 v) V) := hs_put rfl rfl
theorem g_48_1 : am_get (hs S V) 48 2 1 = some (.int (S 48 1)) := hs_get rfl rfl
theorem p_48_1 : am_put (hs S V) 48 2 1 (.int v) = some (hs (uS S 48 1 v) V) := hs_put rfl rfl
theorem g_48_2 : am_get (hs S V) 48 2 2 = some (.int (S 48 2)) := hs_get rfl rfl
theorem p_48_2 : am_put (hs S V) 48 2 2 (.int v) = some (hs (uS S 48 2 v) V) := hs_put rfl rfl
theorem g_48_3 : am_get (hs S V) 48 2 3 = some (.int (S 48 3)) := hs_get rfl rfl
theorem p_48_3 : am_put (hs S V) 48 2 3 (.int v) = some (hs (uS S 48 3 v) V) := hs_put rfl rfl
theorem g_48_4 : am_get (hs S V) 48 2 4 = some (.int (S 48 4)) := hs_get rfl rfl
theorem p_48_4 : am_put (hs S V) 48 2 4 (.int v) = some (hs (uS S 48 4 v) V) := hs_put rfl rfl
theorem g_48_5 : am_get (hs S V) 48 2 5 = some (.int (S 48 5)) := hs_get rfl rfl
theorem p_48_5 : am_put (hs S V) 48 2 5 (.int v) = some (hs (uS S 48 5 v) V) := hs_put rfl rfl
theorem g_48_6 : am_get (hs S V) 48 2 6 = some (.int (S 48 6)) := hs_get rfl rfl
theorem p_48_6 : am_put (hs S V) 48 2 6 (.int v) = some (hs (uS S 48 6 v) V) := hs_put rfl rfl
theorem g_48_7 : am_get (hs S V) 48 2 7 = some (.int (S 48 7)) := hs_get rfl rfl
theorem p_48_7 : am_put (hs S V) 48 2 7 (.int v) = some (hs (uS S 48 7 v) V) := hs_put rfl rfl
theorem g_48_8 : am_get (hs S V) 48 2 8 = some (.int (S 48 8)) := hs_get rfl rfl
theorem p_48_8 : am_put (hs S V) 48 2 8 (.int v) = some (hs (uS S 48 8 v) V) := hs_put rfl rfl
theorem g_48_9 : am_get (hs S V) 48 2 9 = some (.int (S 48 9)) := hs_get rfl rfl
theorem p_48_9 : am_put (hs S V) 48 2 9 (.int v) = some (hs (uS S 48 9 v) V) := hs_put rfl rfl
theorem g_48_10 : am_get (hs S V) 48 2 10 = some (.int (S 48 10)) := hs_get rfl rfl
theorem p_48_10 : am_put (hs S V) 48 2 10 (.int v) = some (hs (uS S 48 10 v) V) := hs_put rfl rfl
theorem g_48_11 : am_get (hs S V) 48 2 11 = some (.int (S 48 11)) := hs_get rfl rfl
theorem p_48_11 : am_put (hs S V) 48 2 11 (.int v) = some (hs (uS S 48 11 v) V) := hs_put rfl rfl
theorem g_48_12 : am_get (hs S V) 48 2 12 = some (.ref 49) := hs_getr rfl rfl
theorem g_48_13 : am_get (hs S V) 48 2 13 = some (.ref 56) := hs_getr rfl rfl
theorem g_48_14 : am_get (hs S V) 48 2 14 = some (.int (S 48 14)) := hs_get rfl rfl
theorem p_48_14 : am_put (hs S V) 48 2 14 (.int v) = some (hs (uS S 48 14 v) V) := hs_put rfl rfl
theorem g_48_15 : am_get (hs S V) 48 2 15 = some (.ref 59) := hs_getr rfl rfl
theorem g_48_16 : am_get (hs S V) 48 2 16 = some (.ref 61) := hs_getr rfl rfl
theorem g_48_17 : am_get (hs S V) 48 2 17 = some (.int (S 48 17)) := hs_get rfl rfl
theorem p_48_17 : am_put (hs S V) 48 2 17 (.int v) = some (hs (uS S 48 17 v) V) := hs_put rfl rfl
theorem q_49_0 : am_ldq (hs S V) 49 0 = some (.ref 50) := hs_ldq rfl rfl (by decide) rfl
theorem q_49_1 : am_ldq (hs S V) 49 1 = some (.ref 52) := hs_ldq rfl rfl (by decide) rfl
theorem q_49_2 : am_ldq (hs S V) 49 2 = some (.ref 54) := hs_ldq rfl rfl (by decide) rfl
theorem i_50 : am_is (hs S V) 50 0 = true := hs_is rfl
theorem g_50_0 : am_get (hs S V) 50 0 0 = some (.ref 51) := hs_getr rfl rfl
theorem g_50_1 : am_get (hs S V) 50 0 1 = some (.int (S 50 1)) := hs_get rfl rfl
theorem p_50_1 : am_put (hs S V) 50 0 1 (.int v) = some (hs (uS S 50 1 v) V) := hs_put rfl rfl
theorem l_51 (hx : ¬ x < 0) : am_ld (hs S V) 51 0 x = (V 51)[x.toNatClampNeg]? := hs_ld rfl hx
theorem s_51 (hx : ¬ x < 0) (hl : x.toNatClampNeg < (V 51).length) : am_sv (hs S V) 51 0 x v = some (hs S (uV V 51 ((V 51).set x.toNatClampNeg v))) := hs_sv rfl hx hl
theorem i_52 : am_is (hs S V) 52 0 = true := hs_is rfl
theorem g_52_0 : am_get (hs S V) 52 0 0 = some (.ref 53) := hs_getr rfl rfl
theorem g_52_1 : am_get (hs S V) 52 0 1 = some (.int (S 52 1)) := hs_get rfl rfl
theorem p_52_1 : am_put (hs S V) 52 0 1 (.int v) = some (hs (uS S 52 1 v) V) := hs_put rfl rfl
theorem l_53 (hx : ¬ x < 0) : am_ld (hs S V) 53 0 x = (V 53)[x.toNatClampNeg]? := hs_ld rfl hx
theorem s_53 (hx : ¬ x < 0) (hl : x.toNatClampNeg < (V 53).length) : am_sv (hs S V) 53 0 x v = some (hs S (uV V 53 ((V 53).set x.toNatClampNeg v))) := hs_sv rfl hx hl
theorem i_54 : am_is (hs S V) 54 0 = true := hs_is rfl
theorem g_54_0 : am_get (hs S V) 54 0 0 = some (.ref 55) := hs_getr rfl rfl
theorem g_54_1 : am_get (hs S V) 54 0 1 = some (.int (S 54 1)) := hs_get rfl rfl
theorem p_54_1 : am_put (hs S V) 54 0 1 (.int v) = some (hs (uS S 54 1 v) V) := hs_put rfl rfl
theorem l_55 (hx : ¬ x < 0) : am_ld (hs S V) 55 0 x = (V 55)[x.toNatClampNeg]? := hs_ld rfl hx
theorem s_55 (hx : ¬ x < 0) (hl : x.toNatClampNeg < (V 55).length) : am_sv (hs S V) 55 0 x v = some (hs S (uV V 55 ((V 55).set x.toNatClampNeg v))) := hs_sv rfl hx hl
theorem i_56 : am_is (hs S V) 56 1 = true := hs_is rfl
theorem g_56_0 : am_get (hs S V) 56 1 0 = some (.int (S 56 0)) := hs_get rfl rfl
theorem p_56_0 : am_put (hs S V) 56 1 0 (.int v) = some (hs (uS S 56 0 v) V) := hs_put rfl rfl
theorem g_56_1 : am_get (hs S V) 56 1 1 = some (.int (S 56 1)) := hs_get rfl rfl
theorem p_56_1 : am_put (hs S V) 56 1 1 (.int v) = some (hs (uS S 56 1 v) V) := hs_put rfl rfl
theorem g_56_2 : am_get (hs S V) 56 1 2 = some (.int (S 56 2)) := hs_get rfl rfl
theorem p_56_2 : am_put (hs S V) 56 1 2 (.int v) = some (hs (uS S 56 2 v) V) := hs_put rfl rfl
theorem g_56_3 : am_get (hs S V) 56 1 3 = some (.ref 57) := hs_getr rfl rfl
theorem i_57 : am_is (hs S V) 57 0 = true := hs_is rfl
theorem g_57_0 : am_get (hs S V) 57 0 0 = some (.ref 58) := hs_getr rfl rfl
theorem g_57_1 : am_get (hs S V) 57 0 1 = some (.int (S 57 1)) := hs_get rfl rfl
theorem p_57_1 : am_put (hs S V) 57 0 1 (.int v) = some (hs (uS S 57 1 v) V) := hs_put rfl rfl
theorem l_58 (hx : ¬ x < 0) : am_ld (hs S V) 58 0 x = (V 58)[x.toNatClampNeg]? := hs_ld rfl hx
theorem s_58 (hx : ¬ x < 0) (hl : x.toNatClampNeg < (V 58).length) : am_sv (hs S V) 58 0 x v = some (hs S (uV V 58 ((V 58).set x.toNatClampNeg v))) := hs_sv rfl hx hl
theorem i_59 : am_is (hs S V) 59 0 = true := hs_is rfl
theorem g_59_0 : am_get (hs S V) 59 0 0 = some (.ref 60) := hs_getr rfl rfl
theorem g_59_1 : am_get (hs S V) 59 0 1 = some (.int (S 59 1)) := hs_get rfl rfl
theorem p_59_1 : am_put (hs S V) 59 0 1 (.int v) = some (hs (uS S 59 1 v) V) := hs_put rfl rfl
theorem l_60 (hx : ¬ x < 0) : am_ld (hs S V) 60 0 x = (V 60)[x.toNatClampNeg]? := hs_ld rfl hx
theorem s_60 (hx : ¬ x < 0) (hl : x.toNatClampNeg < (V 60).length) : am_sv (hs S V) 60 0 x v = some (hs S (uV V 60 ((V 60).set x.toNatClampNeg v))) := hs_sv rfl hx hl
theorem i_61 : am_is (hs S V) 61 0 = true := hs_is rfl
theorem g_61_0 : am_get (hs S V) 61 0 0 = some (.ref 62) := hs_getr rfl rfl
theorem g_61_1 : am_get (hs S V) 61 0 1 = some (.int (S 61 1)) := hs_get rfl rfl
theorem p_61_1 : am_put (hs S V) 61 0 1 (.int v) = some (hs (uS S 61 1 v) V) := hs_put rfl rfl
theorem l_62 (hx : ¬ x < 0) : am_ld (hs S V) 62 0 x = (V 62)[x.toNatClampNeg]? := hs_ld rfl hx
theorem s_62 (hx : ¬ x < 0) (hl : x.toNatClampNeg < (V 62).length) : am_sv (hs S V) 62 0 x v = some (hs S (uV V 62 ((V 62).set x.toNatClampNeg v))) := hs_sv rfl hx hl
theorem i_63 : am_is (hs S V) 63 3 = true := hs_is rfl
theorem g_63_0 : am_get (hs S V) 63 3 0 = some (.ref 64) := hs_getr rfl rfl
theorem g_63_1 : am_get (hs S V) 63 3 1 = some (.ref 65) := hs_getr rfl rfl
theorem g_63_2 : am_get (hs S V) 63 3 2 = some (.ref 66) := hs_getr rfl rfl
theorem g_63_3 : am_get (hs S V) 63 3 3 = some (.ref 67) := hs_getr rfl rfl
theorem g_63_4 : am_get (hs S V) 63 3 4 = some (.int (S 63 4)) := hs_get rfl rfl
theorem p_63_4 : am_put (hs S V) 63 3 4 (.int v) = some (hs (uS S 63 4 v) V) := hs_put rfl rfl
theorem g_63_5 : am_get (hs S V) 63 3 5 = some (.int (S 63 5)) := hs_get rfl rfl
theorem p_63_5 : am_put (hs S V) 63 3 5 (.int v) = some (hs (uS S 63 5 v) V) := hs_put rfl rfl
theorem l_64 (hx : ¬ x < 0) : am_ld (hs S V) 64 0 x = (V 64)[x.toNatClampNeg]? := hs_ld rfl hx
theorem s_64 (hx : ¬ x < 0) (hl : x.toNatClampNeg < (V 64).length) : am_sv (hs S V) 64 0 x v = some (hs S (uV V 64 ((V 64).set x.toNatClampNeg v))) := hs_sv rfl hx hl
theorem l_65 (hx : ¬ x < 0) : am_ld (hs S V) 65 0 x = (V 65)[x.toNatClampNeg]? := hs_ld rfl hx
theorem s_65 (hx : ¬ x < 0) (hl : x.toNatClampNeg < (V 65).length) : am_sv (hs S V) 65 0 x v = some (hs S (uV V 65 ((V 65).set x.toNatClampNeg v))) := hs_sv rfl hx hl
theorem l_66 (hx : ¬ x < 0) : am_ld (hs S V) 66 0 x = (V 66)[x.toNatClampNeg]? := hs_ld rfl hx
theorem s_66 (hx : ¬ x < 0) (hl : x.toNatClampNeg < (V 66).length) : am_sv (hs S V) 66 0 x v = some (hs S (uV V 66 ((V 66).set x.toNatClampNeg v))) := hs_sv rfl hx hl
theorem l_67 (hx : ¬ x < 0) : am_ld (hs S V) 67 1 x = (V 67)[x.toNatClampNeg]? := hs_ld rfl hx
theorem s_67 (hx : ¬ x < 0) (hl : x.toNatClampNeg < (V 67).length) : am_sv (hs S V) 67 1 x v = some (hs S (uV V 67 ((V 67).set x.toNatClampNeg v))) := hs_sv rfl hx hl
theorem i_68 : am_is (hs S V) 68 1 = true := hs_is rfl
theorem g_68_0 : am_get (hs S V) 68 1 0 = some (.int (S 68 0)) := hs_get rfl rfl
theorem p_68_0 : am_put (hs S V) 68 1 0 (.int v) = some (hs (uS S 68 0 v) V) := hs_put rfl rfl
theorem g_68_1 : am_get (hs S V) 68 1 1 = some (.int (S 68 1)) := hs_get rfl rfl
theorem p_68_1 : am_put (hs S V) 68 1 1 (.int v) = some (hs (uS S 68 1 v) V) := hs_put rfl rfl
theorem g_68_2 : am_get (hs S V) 68 1 2 = some (.int (S 68 2)) := hs_get rfl rfl
theorem p_68_2 : am_put (hs S V) 68 1 2 (.int v) = some (hs (uS S 68 2 v) V) := hs_put rfl rfl
theorem g_68_3 : am_get (hs S V) 68 1 3 = some (.ref 69) := hs_getr rfl rfl
theorem i_69 : am_is (hs S V) 69 0 = true := hs_is rfl
theorem g_69_0 : am_get (hs S V) 69 0 0 = some (.ref 70) := hs_getr rfl rfl
theorem g_69_1 : am_get (hs S V) 69 0 1 = some (.int (S 69 1)) := hs_get rfl rfl
theorem p_69_1 : am_put (hs S V) 69 0 1 (.int v) = some (hs (uS S 69 1 v) V) := hs_put rfl rfl
theorem l_70 (hx : ¬ x < 0) : am_ld (hs S V) 70 0 x = (V 70)[x.toNatClampNeg]? := hs_ld rfl hx
theorem s_70 (hx : ¬ x < 0) (hl : x.toNatClampNeg < (V 70).length) : am_sv (hs S V) 70 0 x v = some (hs S (uV V 70 ((V 70).set x.toNatClampNeg v))) := hs_sv rfl hx hl
theorem i_71 : am_is (hs S V) 71 6 = true := hs_is rfl
theorem g_71_0 : am_get (hs S V) 71 6 0 = some (.int (S 71 0)) := hs_get rfl rfl
theorem p_71_0 : am_put (hs S V) 71 6 0 (.int v) = some (hs (uS S 71 0 v) V) := hs_put rfl rfl
theorem g_71_1 : am_get (hs S V) 71 6 1 = some (.int (S 71 1)) := hs_get rfl rfl
theorem p_71_1 : am_put (hs S V) 71 6 1 (.int v) = some (hs (uS S 71 1 v) V) := hs_put rfl rfl
theorem g_71_2 : am_get (hs S V) 71 6 2 = some (.int (S 71 2)) := hs_get rfl rfl
theorem p_71_2 : am_put (hs S V) 71 6 2 (.int v) = some (hs (uS S 71 2 v) V) := hs_put rfl rfl
theorem g_71_3 : am_get (hs S V) 71 6 3 = some (.int (S 71 3)) := hs_get rfl rfl
theorem p_71_3 : am_put (hs S V) 71 6 3 (.int v) = some (hs (uS S 71 3 v) V) := hs_put rfl rfl
theorem g_71_4 : am_get (hs S V) 71 6 4 = some (.int (S 71 4)) := hs_get rfl rfl
theorem p_71_4 : am_put (hs S V) 71 6 4 (.int v) = some (hs (uS S 71 4 v) V) := hs_put rfl rfl
theorem g_71_5 : am_get (hs S V) 71 6 5 = some (.int (S 71 5)) := hs_get rfl rfl
theorem p_71_5 : am_put (hs S V) 71 6 5 (.int v) = some (hs (uS S 71 5 v) V) := hs_put rfl rfl
theorem i_72 : am_is (hs S V) 72 5 = true := hs_is rfl
theorem g_72_0 : am_get (hs S V) 72 5 0 = some (.ref 73) := hs_getr rfl rfl
theorem g_72_1 : am_get (hs S V) 72 5 1 = some (.ref 86) := hs_getr rfl rfl
theorem g_72_2 : am_get (hs S V) 72 5 2 = some (.int (S 72 2)) := hs_get rfl rfl
theorem p_72_2 : am_put (hs S V) 72 5 2 (.int v) = some (hs (uS S 72 2 v) V) := hs_put rfl rfl
theorem g_72_3 : am_get (hs S V) 72 5 3 = some (.ref 87) := hs_getr rfl rfl
theorem q_73_0 : am_ldq (hs S V) 73 0 = some (.ref 74) := hs_ldq rfl rfl (by decide) rfl
theorem q_73_1 : am_ldq (hs S V) 73 1 = some (.ref 76) := hs_ldq rfl rfl (by decide) rfl
theorem q_73_2 : am_ldq (hs S V) 73 2 = some (.ref 78) := hs_ldq rfl rfl (by decide) rfl
theorem q_73_3 : am_ldq (hs S V) 73 3 = some (.ref 80) := hs_ldq rfl rfl (by decide) rfl
theorem q_73_4 : am_ldq (hs S V) 73 4 = some (.ref 82) := hs_ldq rfl rfl (by decide) rfl
theorem q_73_5 : am_ldq (hs S V) 73 5 = some (.ref 84) := hs_ldq rfl rfl (by decide) rfl
theorem i_74 : am_is (hs S V) 74 0 = true := hs_is rfl
theorem g_74_0 : am_get (hs S V) 74 0 0 = some (.ref 75) := hs_getr rfl rfl
theorem g_74_1 : am_get (hs S V) 74 0 1 = some (.int (S 74 1)) := hs_get rfl rfl
theorem p_74_1 : am_put (hs S V) 74 0 1 (.int v) = some (hs (uS S 74 1 v) V) := hs_put rfl rfl
theorem l_75 (hx : ¬ x < 0) : am_ld (hs S V) 75 0 x = (V 75)[x.toNatClampNeg]? := hs_ld rfl hx
theorem s_75 (hx : ¬ x < 0) (hl : x.toNatClampNeg < (V 75).length) : am_sv (hs S V) 75 0 x v = some (hs S (uV V 75 ((V 75).set x.toNatClampNeg v))) := hs_sv rfl hx hl
theorem i_76 : am_is (hs S V) 76 0 = true := hs_is rfl
theorem g_76_0 : am_get (hs S V) 76 0 0 = some (.ref 77) := hs_getr rfl rfl
theorem g_76_1 : am_get (hs S V) 76 0 1 = some (.int (S 76 1)) := hs_get rfl rfl
theorem p_76_1 : am_put (hs S V) 76 0 1 (.int v) = some (hs (uS S 76 1 v) V) := hs_put rfl rfl
theorem l_77 (hx : ¬ x < 0) : am_ld (hs S V) 77 0 x = (V 77)[x.toNatClampNeg]? := hs_ld rfl hx
theorem s_77 (hx : ¬ x < 0) (hl : x.toNatClampNeg < (V 77).length) : am_sv (hs S V) 77 0 x v = some (hs S (uV V 77 ((V 77).set x.toNatClampNeg v))) := hs_sv rfl hx hl
theorem i_78 : am_is (hs S V) 78 0 = true := hs_is rfl
theorem g_78_0 : am_get (hs S V) 78 0 0 = some (.ref 79) := hs_getr rfl rfl
theorem g_78_1 : am_get (hs S V) 78 0 1 = some (.int (S 78 1)) := hs_get rfl rfl
theorem p_78_1 : am_put (hs S V) 78 0 1 (.int v) = some (hs (uS S 78 1 v) V) := hs_put rfl rfl
theorem l_79 (hx : ¬ x < 0) : am_ld (hs S V) 79 0 x = (V 79)[x.toNatClampNeg]? := hs_ld rfl hx
theorem s_79 (hx : ¬ x < 0) (hl : x.toNatClampNeg < (V 79).length) : am_sv (hs S V) 79 0 x v = some (hs S (uV V 79 ((V 79).set x.toNatClampNeg v))) := hs_sv rfl hx hl
theorem i_80 : am_is (hs S V) 80 0 = true := hs_is rfl
theorem g_80_0 : am_get (hs S V) 80 0 0 = some (.ref 81) := hs_getr rfl rfl
theorem g_80_1 : am_get (hs S V) 80 0 1 = some (.int (S 80 1)) := hs_get rfl rfl
theorem p_80_1 : am_put (hs S V) 80 0 1 (.int v) = some (hs (uS S 80 1 v) V) := hs_put rfl rfl
theorem l_81 (hx : ¬ x < 0) : am_ld (hs S V) 81 0 x = (V 81)[x.toNatClampNeg]? := hs_ld rfl hx
theorem s_81 (hx : ¬ x < 0) (hl : x.toNatClampNeg < (V 81).length) : am_sv (hs S V) 81 0 x v = some (hs S (uV V 81 ((V 81).set x.toNatClampNeg v))) := hs_sv rfl hx hl
theorem i_82 : am_is (hs S V) 82 0 = true := hs_is rfl
theorem g_82_0 : am_get (hs S V) 82 0 0 = some (.ref 83) := hs_getr rfl rfl
theorem g_82_1 : am_get (hs S V) 82 0 1 = some (.int (S 82 1)) := hs_get rfl rfl
theorem p_82_1 : am_put (hs S V) 82 0 1 (.int v) = some (hs (uS S 82 1 v) V) := hs_put rfl rfl
theorem l_83 (hx : ¬ x < 0) : am_ld (hs S V) 83 0 x = (V 83)[x.toNatClampNeg]? := hs_ld rfl hx
theorem s_83 (hx : ¬ x < 0) (hl : x.toNatClampNeg < (V 83).length) : am_sv (hs S V) 83 0 x v = some (hs S (uV V 83 ((V 83).set x.toNatClampNeg v))) := hs_sv rfl hx hl
theorem i_84 : am_is (hs S V) 84 0 = true := hs_is rfl
theorem g_84_0 : am_get (hs S V) 84 0 0 = some (.ref 85) := hs_getr rfl rfl
theorem g_84_1 : am_get (hs S V) 84 0 1 = some (.int (S 84 1)) := hs_get rfl rfl
theorem p_84_1 : am_put (hs S V) 84 0 1 (.int v) = some (hs (uS S 84 1 v) V) := hs_put rfl rfl
theorem l_85 (hx : ¬ x < 0) : am_ld (hs S V) 85 0 x = (V 85)[x.toNatClampNeg]? := hs_ld rfl hx
theorem s_85 (hx : ¬ x < 0) (hl : x.toNatClampNeg < (V 85).length) : am_sv (hs S V) 85 0 x v = some (hs S (uV V 85 ((V 85).set x.toNatClampNeg v))) := hs_sv rfl hx hl
theorem l_86 (hx : ¬ x < 0) : am_ld (hs S V) 86 1 x = (V 86)[x.toNatClampNeg]? := hs_ld rfl hx
theorem s_86 (hx : ¬ x < 0) (hl : x.toNatClampNeg < (V 86).length) : am_sv (hs S V) 86 1 x v = some (hs S (uV V 86 ((V 86).set x.toNatClampNeg v))) := hs_sv rfl hx hl
theorem l_87 (hx : ¬ x < 0) : am_ld (hs S V) 87 1 x = (V 87)[x.toNatClampNeg]? := hs_ld rfl hx
theorem s_87 (hx : ¬ x < 0) (hl : x.toNatClampNeg < (V 87).length) : am_sv (hs S V) 87 1 x v = some (hs S (uV V 87 ((V 87).set x.toNatClampNeg v))) := hs_sv rfl hx hl
theorem i_88 : am_is (hs S V) 88 7 = true := hs_is rfl
theorem g_88_0 : am_get (hs S V) 88 7 0 = some (.int (S 88 0)) := hs_get rfl rfl
theorem p_88_0 : am_put (hs S V) 88 7 0 (.int v) = some (hs (uS S 88 0 v) V) := hs_put rfl rfl
theorem g_88_1 : am_get (hs S V) 88 7 1 = some (.int (S 88 1)) := hs_get rfl rfl
theorem p_88_1 : am_put (hs S V) 88 7 1 (.int v) = some (hs (uS S 88 1 v) V) := hs_put rfl rfl
theorem g_88_2 : am_get (hs S V) 88 7 2 = some (.int (S 88 2)) := hs_get rfl rfl
theorem p_88_2 : am_put (hs S V) 88 7 2 (.int v) = some (hs (uS S 88 2 v) V) := hs_put rfl rfl
theorem g_88_3 : am_get (hs S V) 88 7 3 = some (.int (S 88 3)) := hs_get rfl rfl
theorem p_88_3 : am_put (hs S V) 88 7 3 (.int v) = some (hs (uS S 88 3 v) V) := hs_put rfl rfl
theorem g_88_4 : am_get (hs S V) 88 7 4 = some (.int (S 88 4)) := hs_get rfl rfl
theorem p_88_4 : am_put (hs S V) 88 7 4 (.int v) = some (hs (uS S 88 4 v) V) := hs_put rfl rfl
theorem g_88_5 : am_get (hs S V) 88 7 5 = some (.int (S 88 5)) := hs_get rfl rfl
theorem p_88_5 : am_put (hs S V) 88 7 5 (.int v) = some (hs (uS S 88 5 v) V) := hs_put rfl rfl
theorem g_88_6 : am_get (hs S V) 88 7 6 = some (.int (S 88 6)) := hs_get rfl rfl
theorem p_88_6 : am_put (hs S V) 88 7 6 (.int v) = some (hs (uS S 88 6 v) V) := hs_put rfl rfl
theorem g_88_7 : am_get (hs S V) 88 7 7 = some (.int (S 88 7)) := hs_get rfl rfl
theorem p_88_7 : am_put (hs S V) 88 7 7 (.int v) = some (hs (uS S 88 7 v) V) := hs_put rfl rfl
theorem i_89 : am_is (hs S V) 89 0 = true := hs_is rfl
theorem g_89_0 : am_get (hs S V) 89 0 0 = some (.ref 90) := hs_getr rfl rfl
theorem g_89_1 : am_get (hs S V) 89 0 1 = some (.int (S 89 1)) := hs_get rfl rfl
theorem p_89_1 : am_put (hs S V) 89 0 1 (.int v) = some (hs (uS S 89 1 v) V) := hs_put rfl rfl
theorem l_90 (hx : ¬ x < 0) : am_ld (hs S V) 90 0 x = (V 90)[x.toNatClampNeg]? := hs_ld rfl hx
theorem s_90 (hx : ¬ x < 0) (hl : x.toNatClampNeg < (V 90).length) : am_sv (hs S V) 90 0 x v = some (hs S (uV V 90 ((V 90).set x.toNatClampNeg v))) := hs_sv rfl hx hl
theorem i_91 : am_is (hs S V) 91 0 = true := hs_is rfl
theorem g_91_0 : am_get (hs S V) 91 0 0 = some (.ref 92) := hs_getr rfl rfl
theorem g_91_1 : am_get (hs S V) 91 0 1 = some (.int (S 91 1)) := hs_get rfl rfl
theorem p_91_1 : am_put (hs S V) 91 0 1 (.int v) = some (hs (uS S 91 1 v) V) := hs_put rfl rfl
theorem l_92 (hx : ¬ x < 0) : am_ld (hs S V) 92 0 x = (V 92)[x.toNatClampNeg]? := hs_ld rfl hx
theorem s_92 (hx : ¬ x < 0) (hl : x.toNatClampNeg < (V 92).length) : am_sv (hs S V) 92 0 x v = some (hs S (uV V 92 ((V 92).set x.toNatClampNeg v))) := hs_sv rfl hx hl
theorem i_93 : am_is (hs S V) 93 9 = true := hs_is rfl
theorem g_93_0 : am_get (hs S V) 93 9 0 = some (.ref 94) := hs_getr rfl rfl
theorem g_93_1 : am_get (hs S V) 93 9 1 = some (.ref 95) := hs_getr rfl rfl
theorem g_93_2 : am_get (hs S V) 93 9 2 = some (.ref 96) := hs_getr rfl rfl
theorem g_93_3 : am_get (hs S V) 93 9 3 = some (.ref 97) := hs_getr rfl rfl
theorem g_93_4 : am_get (hs S V) 93 9 4 = some (.ref 98) := hs_getr rfl rfl
theorem g_93_5 : am_get (hs S V) 93 9 5 = some (.ref 99) := hs_getr rfl rfl
theorem g_93_6 : am_get (hs S V) 93 9 6 = some (.ref 100) := hs_getr rfl rfl
theorem g_93_7 : am_get (hs S V) 93 9 7 = some (.ref 101) := hs_getr rfl rfl
theorem g_93_8 : am_get (hs S V) 93 9 8 = some (.ref 102) := hs_getr rfl rfl
theorem g_93_9 : am_get (hs S V) 93 9 9 = some (.ref 103) := hs_getr rfl rfl
theorem g_93_10 : am_get (hs S V) 93 9 10 = some (.ref 104) := hs_getr rfl rfl
theorem g_93_11 : am_get (hs S V) 93 9 11 = some (.ref 105) := hs_getr rfl rfl
theorem g_93_12 : am_get (hs S V) 93 9 12 = some (.ref 106) := hs_getr rfl rfl
theorem g_93_13 : am_get (hs S V) 93 9 13 = some (.ref 107) := hs_getr rfl rfl
theorem g_93_14 : am_get (hs S V) 93 9 14 = some (.int (S 93 14)) := hs_get rfl rfl
theorem p_93_14 : am_put (hs S V) 93 9 14 (.int v) = some (hs (uS S 93 14 v) V) := hs_put rfl rfl
theorem g_93_15 : am_get (hs S V) 93 9 15 = some (.int (S 93 15)) := hs_get rfl rfl
theorem p_93_15 : am_put (hs S V) 93 9 15 (.int v) = some (hs (uS S 93 15 v) V) := hs_put rfl rfl
theorem g_93_16 : am_get (hs S V) 93 9 16 = some (.int (S 93 16)) := hs_get rfl rfl
theorem p_93_16 : am_put (hs S V) 93 9 16 (.int v) = some (hs (uS S 93 16 v) V) := hs_put rfl rfl
theorem g_93_17 : am_get (hs S V) 93 9 17 = some (.int (S 93 17)) := hs_get rfl rfl
theorem p_93_17 : am_put (hs S V) 93 9 17 (.int v) = some (hs (uS S 93 17 v) V) := hs_put rfl rfl
theorem g_93_18 : am_get (hs S V) 93 9 18 = some (.int (S 93 18)) := hs_get rfl rfl
theorem p_93_18 : am_put (hs S V) 93 9 18 (.int v) = some (hs (uS S 93 18 v) V) := hs_put rfl rfl
theorem g_93_19 : am_get (hs S V) 93 9 19 = some (.int (S 93 19)) := hs_get rfl rfl
theorem p_93_19 : am_put (hs S V) 93 9 19 (.int v) = some (hs (uS S 93 19 v) V) := hs_put rfl rfl
theorem g_93_20 : am_get (hs S V) 93 9 20 = some (.ref 108) := hs_getr rfl rfl
theorem g_93_21 : am_get (hs S V) 93 9 21 = some (.ref 109) := hs_getr rfl rfl
theorem g_93_22 : am_get (hs S V) 93 9 22 = some (.ref 110) := hs_getr rfl rfl
theorem g_93_23 : am_get (hs S V) 93 9 23 = some (.ref 111) := hs_getr rfl rfl
theorem g_93_24 : am_get (hs S V) 93 9 24 = some (.int (S 93 24)) := hs_get rfl rfl
theorem p_93_24 : am_put (hs S V) 93 9 24 (.int v) = some (hs (uS S 93 24 v) V) := hs_put rfl rfl
theorem g_93_25 : am_get (hs S V) 93 9 25 = some (.int (S 93 25)) := hs_get rfl rfl
theorem p_93_25 : am_put (hs S V) 93 9 25 (.int v) = some (hs (uS S 93 25 v) V) := hs_put rfl rfl
theorem g_93_26 : am_get (hs S V) 93 9 26 = some (.int (S 93 26)) := hs_get rfl rfl
theorem p_93_26 : am_put (hs S V) 93 9 26 (.int v) = some (hs (uS S 93 26 v) V) := hs_put rfl rfl
theorem g_93_27 : am_get (hs S V) 93 9 27 = some (.int (S 93 27)) := hs_get rfl rfl
theorem p_93_27 : am_put (hs S V) 93 9 27 (.int v) = some (hs (uS S 93 27 v) V) := hs_put rfl rfl
theorem g_93_28 : am_get (hs S V) 93 9 28 = some (.int (S 93 28)) := hs_get rfl rfl
theorem p_93_28 : am_put (hs S V) 93 9 28 (.int v) = some (hs (uS S 93 28 v) V) := hs_put rfl rfl
theorem g_93_29 : am_get (hs S V) 93 9 29 = some (.int (S 93 29)) := hs_get rfl rfl
theorem p_93_29 : am_put (hs S V) 93 9 29 (.int v) = some (hs (uS S 93 29 v) V) := hs_put rfl rfl
theorem g_93_30 : am_get (hs S V) 93 9 30 = some (.int (S 93 30)) := hs_get rfl rfl
theorem p_93_30 : am_put (hs S V) 93 9 30 (.int v) = some (hs (uS S 93 30 v) V) := hs_put rfl rfl
theorem g_93_31 : am_get (hs S V) 93 9 31 = some (.int (S 93 31)) := hs_get rfl rfl
theorem p_93_31 : am_put (hs S V) 93 9 31 (.int v) = some (hs (uS S 93 31 v) V) := hs_put rfl rfl
theorem g_93_32 : am_get (hs S V) 93 9 32 = some (.int (S 93 32)) := hs_get rfl rfl
theorem p_93_32 : am_put (hs S V) 93 9 32 (.int v) = some (hs (uS S 93 32 v) V) := hs_put rfl rfl
theorem g_93_33 : am_get (hs S V) 93 9 33 = some (.int (S 93 33)) := hs_get rfl rfl
theorem p_93_33 : am_put (hs S V) 93 9 33 (.int v) = some (hs (uS S 93 33 v) V) := hs_put rfl rfl
theorem g_93_34 : am_get (hs S V) 93 9 34 = some (.int (S 93 34)) := hs_get rfl rfl
theorem p_93_34 : am_put (hs S V) 93 9 34 (.int v) = some (hs (uS S 93 34 v) V) := hs_put rfl rfl
theorem g_93_35 : am_get (hs S V) 93 9 35 = some (.ref 112) := hs_getr rfl rfl
theorem g_93_36 : am_get (hs S V) 93 9 36 = some (.ref 113) := hs_getr rfl rfl
theorem g_93_37 : am_get (hs S V) 93 9 37 = some (.ref 114) := hs_getr rfl rfl
theorem g_93_38 : am_get (hs S V) 93 9 38 = some (.ref 115) := hs_getr rfl rfl
theorem g_93_39 : am_get (hs S V) 93 9 39 = some (.int (S 93 39)) := hs_get rfl rfl
theorem p_93_39 : am_put (hs S V) 93 9 39 (.int v) = some (hs (uS S 93 39 v) V) := hs_put rfl rfl
theorem g_93_40 : am_get (hs S V) 93 9 40 = some (.int (S 93 40)) := hs_get rfl rfl
theorem p_93_40 : am_put (hs S V) 93 9 40 (.int v) = some (hs (uS S 93 40 v) V) := hs_put rfl rfl
theorem g_93_41 : am_get (hs S V) 93 9 41 = some (.int (S 93 41)) := hs_get rfl rfl
theorem p_93_41 : am_put (hs S V) 93 9 41 (.int v) = some (hs (uS S 93 41 v) V) := hs_put rfl rfl
theorem g_93_42 : am_get (hs S V) 93 9 42 = some (.int (S 93 42)) := hs_get rfl rfl
theorem p_93_42 : am_put (hs S V) 93 9 42 (.int v) = some (hs (uS S 93 42 v) V) := hs_put rfl rfl
theorem g_93_43 : am_get (hs S V) 93 9 43 = some (.int (S 93 43)) := hs_get rfl rfl
theorem p_93_43 : am_put (hs S V) 93 9 43 (.int v) = some (hs (uS S 93 43 v) V) := hs_put rfl rfl
theorem g_93_44 : am_get (hs S V) 93 9 44 = some (.int (S 93 44)) := hs_get rfl rfl
theorem p_93_44 : am_put (hs S V) 93 9 44 (.int v) = some (hs (uS S 93 44 v) V) := hs_put rfl rfl
theorem g_93_45 : am_get (hs S V) 93 9 45 = some (.int (S 93 45)) := hs_get rfl rfl
theorem p_93_45 : am_put (hs S V) 93 9 45 (.int v) = some (hs (uS S 93 45 v) V) := hs_put rfl rfl
theorem g_93_46 : am_get (hs S V) 93 9 46 = some (.int (S 93 46)) := hs_get rfl rfl
theorem p_93_46 : am_put (hs S V) 93 9 46 (.int v) = some (hs (uS S 93 46 v) V) := hs_put rfl rfl
theorem g_93_47 : am_get (hs S V) 93 9 47 = some (.int (S 93 47)) := hs_get rfl rfl
theorem p_93_47 : am_put (hs S V) 93 9 47 (.int v) = some (hs (uS S 93 47 v) V) := hs_put rfl rfl
theorem g_93_48 : am_get (hs S V) 93 9 48 = some (.int (S 93 48)) := hs_get rfl rfl
theorem p_93_48 : am_put (hs S V) 93 9 48 (.int v) = some (hs (uS S 93 48 v) V) := hs_put rfl rfl
theorem g_93_49 : am_get (hs S V) 93 9 49 = some (.ref 116) := hs_getr rfl rfl
theorem g_93_50 : am_get (hs S V) 93 9 50 = some (.ref 117) := hs_getr rfl rfl
theorem g_93_51 : am_get (hs S V) 93 9 51 = some (.ref 118) := hs_getr rfl rfl
theorem g_93_52 : am_get (hs S V) 93 9 52 = some (.ref 119) := hs_getr rfl rfl
theorem g_93_53 : am_get (hs S V) 93 9 53 = some (.ref 120) := hs_getr rfl rfl
theorem l_94 (hx : ¬ x < 0) : am_ld (hs S V) 94 1 x = (V 94)[x.toNatClampNeg]? := hs_ld rfl hx
theorem s_94 (hx : ¬ x < 0) (hl : x.toNatClampNeg < (V 94).length) : am_sv (hs S V) 94 1 x v = some (hs S (uV V 94 ((V 94).set x.toNatClampNeg v))) := hs_sv rfl hx hl
theorem l_95 (hx : ¬ x < 0) : am_ld (hs S V) 95 1 x = (V 95)[x.toNatClampNeg]? := hs_ld rfl hx
theorem s_95 (hx : ¬ x < 0) (hl : x.toNatClampNeg < (V 95).length) : am_sv (hs S V) 95 1 x v = some (hs S (uV V 95 ((V 95).set x.toNatClampNeg v))) := hs_sv rfl hx hl
theorem l_96 (hx : ¬ x < 0) : am_ld (hs S V) 96 1 x = (V 96)[x.toNatClampNeg]? := hs_ld rfl hx
theorem s_96 (hx : ¬ x < 0) (hl : x.toNatClampNeg < (V 96).length) : am_sv (hs S V) 96 1 x v = some (hs S (uV V 96 ((V 96).set x.toNatClampNeg v))) := hs_sv rfl hx hl
theorem l_97 (hx : ¬ x < 0) : am_ld (hs S V) 97 0 x = (V 97)[x.toNatClampNeg]? := hs_ld rfl hx
theorem s_97 (hx : ¬ x < 0) (hl : x.toNatClampNeg < (V 97).length) : am_sv (hs S V) 97 0 x v = some (hs S (uV V 97 ((V 97).set x.toNatClampNeg v))) := hs_sv rfl hx hl
theorem l_98 (hx : ¬ x < 0) : am_ld (hs S V) 98 0 x = (V 98)[x.toNatClampNeg]? := hs_ld rfl hx
theorem s_98 (hx : ¬ x < 0) (hl : x.toNatClampNeg < (V 98).length) : am_sv (hs S V) 98 0 x v = some (hs S (uV V 98 ((V 98).set x.toNatClampNeg v))) := hs_sv rfl hx hl
theorem l_99 (hx : ¬ x < 0) : am_ld (hs S V) 99 0 x = (V 99)[x.toNatClampNeg]? := hs_ld rfl hx
theorem s_99 (hx : ¬ x < 0) (hl : x.toNatClampNeg < (V 99).length) : am_sv (hs S V) 99 0 x v = some (hs S (uV V 99 ((V 99).set x.toNatClampNeg v))) := hs_sv rfl hx hl
theorem l_100 (hx : ¬ x < 0) : am_ld (hs S V) 100 0 x = (V 100)[x.toNatClampNeg]? := hs_ld rfl hx
theorem s_100 (hx : ¬ x < 0) (hl : x.toNatClampNeg < (V 100).length) : am_sv (hs S V) 100 0 x v = some (hs S (uV V 100 ((V 100).set x.toNatClampNeg v))) := hs_sv rfl hx hl
theorem l_101 (hx : ¬ x < 0) : am_ld (hs S V) 101 0 x = (V 101)[x.toNatClampNeg]? := hs_ld rfl hx
theorem s_101 (hx : ¬ x < 0) (hl : x.toNatClampNeg < (V 101).length) : am_sv (hs S V) 101 0 x v = some (hs S (uV V 101 ((V 101).set x.toNatClampNeg v))) := hs_sv rfl hx hl
theorem l_102 (hx : ¬ x < 0) : am_ld (hs S V) 102 0 x = (V 102)[x.toNatClampNeg]? := hs_ld rfl hx
theorem s_102 (hx : ¬ x < 0) (hl : x.toNatClampNeg < (V 102).length) : am_sv (hs S V) 102 0 x v = some (hs S (uV V 102 ((V 102).set x.toNatClampNeg v))) := hs_sv rfl hx hl
theorem l_103 (hx : ¬ x < 0) : am_ld (hs S V) 103 0 x = (V 103)[x.toNatClampNeg]? := hs_ld rfl hx
theorem s_103 (hx : ¬ x < 0) (hl : x.toNatClampNeg < (V 103).length) : am_sv (hs S V) 103 0 x v = some (hs S (uV V 103 ((V 103).set x.toNatClampNeg v))) := hs_sv rfl hx hl
theorem l_104 (hx : ¬ x < 0) : am_ld (hs S V) 104 0 x = (V 104)[x.toNatClampNeg]? := hs_ld rfl hx
theorem s_104 (hx : ¬ x < 0) (hl : x.toNatClampNeg < (V 104).length) : am_sv (hs S V) 104 0 x v = some (hs S (uV V 104 ((V 104).set x.toNatClampNeg v))) := hs_sv rfl hx hl
theorem l_105 (hx : ¬ x < 0) : am_ld (hs S V) 105 0 x = (V 105)[x.toNatClampNeg]? := hs_ld rfl hx
theorem s_105 (hx : ¬ x < 0) (hl : x.toNatClampNeg < (V 105).length) : am_sv (hs S V) 105 0 x v = some (hs S (uV V 105 ((V 105).set x.toNatClampNeg v))) := hs_sv rfl hx hl
theorem l_106 (hx : ¬ x < 0) : am_ld (hs S V) 106 0 x = (V 106)[x.toNatClampNeg]? := hs_ld rfl hx
theorem s_106 (hx : ¬ x < 0) (hl : x.toNatClampNeg < (V 106).length) : am_sv (hs S V) 106 0 x v = some (hs S (uV V 106 ((V 106).set x.toNatClampNeg v))) := hs_sv rfl hx hl
theorem l_107 (hx : ¬ x < 0) : am_ld (hs S V) 107 0 x = (V 107)[x.toNatClampNeg]? := hs_ld rfl hx
theorem s_107 (hx : ¬ x < 0) (hl : x.toNatClampNeg < (V 107).length) : am_sv (hs S V) 107 0 x v = some (hs S (uV V 107 ((V 107).set x.toNatClampNeg v))) := hs_sv rfl hx hl
theorem l_108 (hx : ¬ x < 0) : am_ld (hs S V) 108 0 x = (V 108)[x.toNatClampNeg]? := hs_ld rfl hx
theorem s_108 (hx : ¬ x < 0) (hl : x.toNatClampNeg < (V 108).length) : am_sv (hs S V) 108 0 x v = some (hs S (uV V 108 ((V 108).set x.toNatClampNeg v))) := hs_sv rfl hx hl
theorem l_109 (hx : ¬ x < 0) : am_ld (hs S V) 109 0 x = (V 109)[x.toNatClampNeg]? := hs_ld rfl hx
theorem s_109 (hx : ¬ x < 0) (hl : x.toNatClampNeg < (V 109).length) : am_sv (hs S V) 109 0 x v = some (hs S (uV V 109 ((V 109).set x.toNatClampNeg v))) := hs_sv rfl hx hl
theorem l_110 (hx : ¬ x < 0) : am_ld (hs S V) 110 0 x = (V 110)[x.toNatClampNeg]? := hs_ld rfl hx
theorem s_110 (hx : ¬ x < 0) (hl : x.toNatClampNeg < (V 110).length) : am_sv (hs S V) 110 0 x v = some (hs S (uV V 110 ((V 110).set x.toNatClampNeg v))) := hs_sv rfl hx hl
theorem l_111 (hx : ¬ x < 0) : am_ld (hs S V) 111 1 x = (V 111)[x.toNatClampNeg]? := hs_ld rfl hx
theorem s_111 (hx : ¬ x < 0) (hl : x.toNatClampNeg < (V 111).length) : am_sv (hs S V) 111 1 x v = some (hs S (uV V 111 ((V 111).set x.toNatClampNeg v))) := hs_sv rfl hx hl
theorem l_112 (hx : ¬ x < 0) : am_ld (hs S V) 112 0 x = (V 112)[x.toNatClampNeg]? := hs_ld rfl hx
theorem s_112 (hx : ¬ x < 0) (hl : x.toNatClampNeg < (V 112).length) : am_sv (hs S V) 112 0 x v = some (hs S (uV V 112 ((V 112).set x.toNatClampNeg v))) := hs_sv rfl hx hl
theorem l_113 (hx : ¬ x < 0) : am_ld (hs S V) 113 0 x = (V 113)[x.toNatClampNeg]? := hs_ld rfl hx
theorem s_113 (hx : ¬ x < 0) (hl : x.toNatClampNeg < (V 113).length) : am_sv (hs S V) 113 0 x v = some (hs S (uV V 113 ((V 113).set x.toNatClampNeg v))) := hs_sv rfl hx hl
theorem l_114 (hx : ¬ x < 0) : am_ld (hs S V) 114 0 x = (V 114)[x.toNatClampNeg]? := hs_ld rfl hx
theorem s_114 (hx : ¬ x < 0) (hl : x.toNatClampNeg < (V 114).length) : am_sv (hs S V) 114 0 x v = some (hs S (uV V 114 ((V 114).set x.toNatClampNeg v))) := hs_sv rfl hx hl
theorem l_115 (hx : ¬ x < 0) : am_ld (hs S V) 115 0 x = (V 115)[x.toNatClampNeg]? := hs_ld rfl hx
theorem s_115 (hx : ¬ x < 0) (hl : x.toNatClampNeg < (V 115).length) : am_sv (hs S V) 115 0 x v = some (hs S (uV V 115 ((V 115).set x.toNatClampNeg v))) := hs_sv rfl hx hl
theorem l_116 (hx : ¬ x < 0) : am_ld (hs S V) 116 0 x = (V 116)[x.toNatClampNeg]? := hs_ld rfl hx
theorem s_116 (hx : ¬ x < 0) (hl : x.toNatClampNeg < (V 116).length) : am_sv (hs S V) 116 0 x v = some (hs S (uV V 116 ((V 116).set x.toNatClampNeg v))) := hs_sv rfl hx hl
theorem l_117 (hx : ¬ x < 0) : am_ld (hs S V) 117 0 x = (V 117)[x.toNatClampNeg]? := hs_ld rfl hx
theorem s_117 (hx : ¬ x < 0) (hl : x.toNatClampNeg < (V 117).length) : am_sv (hs S V) 117 0 x v = some (hs S (uV V 117 ((V 117).set x.toNatClampNeg v))) := hs_sv rfl hx hl
theorem l_118 (hx : ¬ x < 0) : am_ld (hs S V) 118 0 x = (V 118)[x.toNatClampNeg]? := hs_ld rfl hx
theorem s_118 (hx : ¬ x < 0) (hl : x.toNatClampNeg < (V 118).length) : am_sv (hs S V) 118 0 x v = some (hs S (uV V 118 ((V 118).set x.toNatClampNeg v))) := hs_sv rfl hx hl
theorem l_119 (hx : ¬ x < 0) : am_ld (hs S V) 119 0 x = (V 119)[x.toNatClampNeg]? := hs_ld rfl hx
theorem s_119 (hx : ¬ x < 0) (hl : x.toNatClampNeg < (V 119).length) : am_sv (hs S V) 119 0 x v = some (hs S (uV V 119 ((V 119).set x.toNatClampNeg v))) := hs_sv rfl hx hl
theorem l_120 (hx : ¬ x < 0) : am_ld (hs S V) 120 0 x = (V 120)[x.toNatClampNeg]? := hs_ld rfl hx
theorem s_120 (hx : ¬ x < 0) (hl : x.toNatClampNeg < (V 120).length) : am_sv (hs S V) 120 0 x v = some (hs S (uV V 120 ((V 120).set x.toNatClampNeg v))) := hs_sv rfl hx hl
end FACTS
theorem r_5 : isRow 5 := ⟨rfl, rfl⟩
theorem r_7 : isRow 7 := ⟨rfl, rfl⟩
theorem r_9 : isRow 9 := ⟨rfl, rfl⟩
theorem r_12 : isRow 12 := ⟨rfl, rfl⟩
theorem r_14 : isRow 14 := ⟨rfl, rfl⟩
theorem r_16 : isRow 16 := ⟨rfl, rfl⟩
theorem r_20 : isRow 20 := ⟨rfl, rfl⟩
theorem r_22 : isRow 22 := ⟨rfl, rfl⟩
theorem r_24 : isRow 24 := ⟨rfl, rfl⟩
theorem r_27 : isRow 27 := ⟨rfl, rfl⟩
theorem r_29 : isRow 29 := ⟨rfl, rfl⟩
theorem r_31 : isRow 31 := ⟨rfl, rfl⟩
theorem r_35 : isRow 35 := ⟨rfl, rfl⟩
theorem r_37 : isRow 37 := ⟨rfl, rfl⟩
theorem r_39 : isRow 39 := ⟨rfl, rfl⟩
theorem r_42 : isRow 42 := ⟨rfl, rfl⟩
theorem r_44 : isRow 44 := ⟨rfl, rfl⟩
theorem r_46 : isRow 46 := ⟨rfl, rfl⟩
theorem r_50 : isRow 50 := ⟨rfl, rfl⟩
theorem r_52 : isRow 52 := ⟨rfl, rfl⟩
theorem r_54 : isRow 54 := ⟨rfl, rfl⟩
theorem r_57 : isRow 57 := ⟨rfl, rfl⟩
theorem r_59 : isRow 59 := ⟨rfl, rfl⟩
theorem r_61 : isRow 61 := ⟨rfl, rfl⟩
theorem r_69 : isRow 69 := ⟨rfl, rfl⟩
theorem r_74 : isRow 74 := ⟨rfl, rfl⟩
theorem r_76 : isRow 76 := ⟨rfl, rfl⟩
theorem r_78 : isRow 78 := ⟨rfl, rfl⟩
theorem r_80 : isRow 80 := ⟨rfl, rfl⟩
theorem r_82 : isRow 82 := ⟨rfl, rfl⟩
theorem r_84 : isRow 84 := ⟨rfl, rfl⟩
theorem r_89 : isRow 89 := ⟨rfl, rfl⟩
theorem r_91 : isRow 91 := ⟨rfl, rfl⟩
