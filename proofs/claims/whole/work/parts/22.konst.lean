/-! Constants. -/
theorem kb_m30 : (Int8.ofInt (-30)).toInt32 = (-30 : Int32) := by decide
theorem kb_6 : (Int8.ofInt (6)).toInt32 = (6 : Int32) := by decide
theorem kb_7 : (Int8.ofInt (7)).toInt32 = (7 : Int32) := by decide
theorem kb_8 : (Int8.ofInt (8)).toInt32 = (8 : Int32) := by decide
theorem kb_9 : (Int8.ofInt (9)).toInt32 = (9 : Int32) := by decide
theorem kb_10 : (Int8.ofInt (10)).toInt32 = (10 : Int32) := by decide
theorem kb_11 : (Int8.ofInt (11)).toInt32 = (11 : Int32) := by decide
theorem kb_12 : (Int8.ofInt (12)).toInt32 = (12 : Int32) := by decide
theorem kb_13 : (Int8.ofInt (13)).toInt32 = (13 : Int32) := by decide
theorem kb_14 : (Int8.ofInt (14)).toInt32 = (14 : Int32) := by decide
theorem kb_15 : (Int8.ofInt (15)).toInt32 = (15 : Int32) := by decide
theorem kb_16 : (Int8.ofInt (16)).toInt32 = (16 : Int32) := by decide
theorem kb_17 : (Int8.ofInt (17)).toInt32 = (17 : Int32) := by decide
theorem kb_20 : (Int8.ofInt (20)).toInt32 = (20 : Int32) := by decide
theorem kb_21 : (Int8.ofInt (21)).toInt32 = (21 : Int32) := by decide
theorem kb_22 : (Int8.ofInt (22)).toInt32 = (22 : Int32) := by decide
theorem kb_23 : (Int8.ofInt (23)).toInt32 = (23 : Int32) := by decide
theorem kb_24 : (Int8.ofInt (24)).toInt32 = (24 : Int32) := by decide
theorem kb_25 : (Int8.ofInt (25)).toInt32 = (25 : Int32) := by decide
theorem kb_26 : (Int8.ofInt (26)).toInt32 = (26 : Int32) := by decide
theorem kb_27 : (Int8.ofInt (27)).toInt32 = (27 : Int32) := by decide
theorem kb_28 : (Int8.ofInt (28)).toInt32 = (28 : Int32) := by decide
theorem kb_29 : (Int8.ofInt (29)).toInt32 = (29 : Int32) := by decide
theorem kb_30 : (Int8.ofInt (30)).toInt32 = (30 : Int32) := by decide
theorem kb_31 : (Int8.ofInt (31)).toInt32 = (31 : Int32) := by decide
theorem kb_32 : (Int8.ofInt (32)).toInt32 = (32 : Int32) := by decide
theorem kb_40 : (Int8.ofInt (40)).toInt32 = (40 : Int32) := by decide
theorem kb_41 : (Int8.ofInt (41)).toInt32 = (41 : Int32) := by decide
theorem kb_42 : (Int8.ofInt (42)).toInt32 = (42 : Int32) := by decide
theorem kb_43 : (Int8.ofInt (43)).toInt32 = (43 : Int32) := by decide
theorem kb_45 : (Int8.ofInt (45)).toInt32 = (45 : Int32) := by decide
theorem kb_48 : (Int8.ofInt (48)).toInt32 = (48 : Int32) := by decide
theorem kb_56 : (Int8.ofInt (56)).toInt32 = (56 : Int32) := by decide
theorem kb_57 : (Int8.ofInt (57)).toInt32 = (57 : Int32) := by decide
theorem kb_59 : (Int8.ofInt (59)).toInt32 = (59 : Int32) := by decide
theorem kb_60 : (Int8.ofInt (60)).toInt32 = (60 : Int32) := by decide
theorem kb_61 : (Int8.ofInt (61)).toInt32 = (61 : Int32) := by decide
theorem kb_63 : (Int8.ofInt (63)).toInt32 = (63 : Int32) := by decide
theorem kb_68 : (Int8.ofInt (68)).toInt32 = (68 : Int32) := by decide
theorem kb_69 : (Int8.ofInt (69)).toInt32 = (69 : Int32) := by decide
theorem kb_75 : (Int8.ofInt (75)).toInt32 = (75 : Int32) := by decide
theorem kb_80 : (Int8.ofInt (80)).toInt32 = (80 : Int32) := by decide
theorem kb_96 : (Int8.ofInt (96)).toInt32 = (96 : Int32) := by decide
theorem kb_97 : (Int8.ofInt (97)).toInt32 = (97 : Int32) := by decide
theorem kb_99 : (Int8.ofInt (99)).toInt32 = (99 : Int32) := by decide
theorem kb_100 : (Int8.ofInt (100)).toInt32 = (100 : Int32) := by decide
theorem kb_120 : (Int8.ofInt (120)).toInt32 = (120 : Int32) := by decide
theorem kb_122 : (Int8.ofInt (122)).toInt32 = (122 : Int32) := by decide
theorem kb_126 : (Int8.ofInt (126)).toInt32 = (126 : Int32) := by decide
theorem k32_m8 : Int32.ofInt (-8) = (-8 : Int32) := by decide
theorem k32_m1 : Int32.ofInt (-1) = (-1 : Int32) := by decide
theorem k32_0 : Int32.ofInt (0) = (0 : Int32) := by decide
theorem k32_1 : Int32.ofInt (1) = (1 : Int32) := by decide
theorem k32_2 : Int32.ofInt (2) = (2 : Int32) := by decide
theorem k32_3 : Int32.ofInt (3) = (3 : Int32) := by decide
theorem k32_4 : Int32.ofInt (4) = (4 : Int32) := by decide
theorem k32_5 : Int32.ofInt (5) = (5 : Int32) := by decide
theorem k32_7 : Int32.ofInt (7) = (7 : Int32) := by decide
theorem kl_0 : Int64.ofNat ((0 : Fin 2) : Nat) = (0 : Int64) := by decide
theorem kl_1 : Int64.ofNat ((1 : Fin 2) : Nat) = (1 : Int64) := by decide
theorem ks_128 : (Int16.ofInt (128)).toInt32 = (128 : Int32) := by decide
theorem ks_144 : (Int16.ofInt (144)).toInt32 = (144 : Int32) := by decide
theorem ks_200 : (Int16.ofInt (200)).toInt32 = (200 : Int32) := by decide
theorem ks_225 : (Int16.ofInt (225)).toInt32 = (225 : Int32) := by decide
theorem ks_255 : (Int16.ofInt (255)).toInt32 = (255 : Int32) := by decide
theorem ks_288 : (Int16.ofInt (288)).toInt32 = (288 : Int32) := by decide
theorem ks_300 : (Int16.ofInt (300)).toInt32 = (300 : Int32) := by decide
theorem ks_576 : (Int16.ofInt (576)).toInt32 = (576 : Int32) := by decide
theorem ks_864 : (Int16.ofInt (864)).toInt32 = (864 : Int32) := by decide
theorem ks_1000 : (Int16.ofInt (1000)).toInt32 = (1000 : Int32) := by decide
theorem ks_1440 : (Int16.ofInt (1440)).toInt32 = (1440 : Int32) := by decide
theorem ks_3456 : (Int16.ofInt (3456)).toInt32 = (3456 : Int32) := by decide
theorem ks_4000 : (Int16.ofInt (4000)).toInt32 = (4000 : Int32) := by decide
theorem ks_5000 : (Int16.ofInt (5000)).toInt32 = (5000 : Int32) := by decide
theorem ks_5760 : (Int16.ofInt (5760)).toInt32 = (5760 : Int32) := by decide
theorem ks_9999 : (Int16.ofInt (9999)).toInt32 = (9999 : Int32) := by decide
theorem ks_10000 : (Int16.ofInt (10000)).toInt32 = (10000 : Int32) := by decide
theorem ks_20000 : (Int16.ofInt (20000)).toInt32 = (20000 : Int32) := by decide
theorem ks_20001 : (Int16.ofInt (20001)).toInt32 = (20001 : Int32) := by decide
theorem ks_20002 : (Int16.ofInt (20002)).toInt32 = (20002 : Int32) := by decide
theorem ks_20003 : (Int16.ofInt (20003)).toInt32 = (20003 : Int32) := by decide
theorem ks_20004 : (Int16.ofInt (20004)).toInt32 = (20004 : Int32) := by decide
theorem ks_20005 : (Int16.ofInt (20005)).toInt32 = (20005 : Int32) := by decide
theorem ks_20006 : (Int16.ofInt (20006)).toInt32 = (20006 : Int32) := by decide
theorem ks_20007 : (Int16.ofInt (20007)).toInt32 = (20007 : Int32) := by decide
theorem ks_20008 : (Int16.ofInt (20008)).toInt32 = (20008 : Int32) := by decide
theorem kw_m1 : Int64.ofInt (-1) = (-1 : Int64) := by decide
theorem kw_5 : Int64.ofInt (5) = (5 : Int64) := by decide
theorem kw_10 : Int64.ofInt (10) = (10 : Int64) := by decide
theorem kw_27 : Int64.ofInt (27) = (27 : Int64) := by decide
theorem kw_96 : Int64.ofInt (96) = (96 : Int64) := by decide
theorem kw_120 : Int64.ofInt (120) = (120 : Int64) := by decide
theorem kw_255 : Int64.ofInt (255) = (255 : Int64) := by decide
theorem kw_423 : Int64.ofInt (423) = (423 : Int64) := by decide
theorem kw_1111 : Int64.ofInt (1111) = (1111 : Int64) := by decide
theorem kw_2000 : Int64.ofInt (2000) = (2000 : Int64) := by decide
theorem kw_5146 : Int64.ofInt (5146) = (5146 : Int64) := by decide
theorem kw_6094 : Int64.ofInt (6094) = (6094 : Int64) := by decide
theorem kw_8903 : Int64.ofInt (8903) = (8903 : Int64) := by decide
theorem kw_9518 : Int64.ofInt (9518) = (9518 : Int64) := by decide
theorem kw_10000 : Int64.ofInt (10000) = (10000 : Int64) := by decide
theorem kw_10631 : Int64.ofInt (10631) = (10631 : Int64) := by decide
theorem kw_12345 : Int64.ofInt (12345) = (12345 : Int64) := by decide
theorem kw_65536 : Int64.ofInt (65536) = (65536 : Int64) := by decide
theorem kw_133743 : Int64.ofInt (133743) = (133743 : Int64) := by decide
theorem kw_158523 : Int64.ofInt (158523) = (158523 : Int64) := by decide
theorem kw_161614 : Int64.ofInt (161614) = (161614 : Int64) := by decide
theorem kw_380651 : Int64.ofInt (380651) = (380651 : Int64) := by decide
theorem kw_385309 : Int64.ofInt (385309) = (385309 : Int64) := by decide
theorem kw_458690 : Int64.ofInt (458690) = (458690 : Int64) := by decide
theorem kw_459437 : Int64.ofInt (459437) = (459437 : Int64) := by decide
theorem kw_1905275 : Int64.ofInt (1905275) = (1905275 : Int64) := by decide
theorem kw_10334903 : Int64.ofInt (10334903) = (10334903 : Int64) := by decide
theorem kw_10656671 : Int64.ofInt (10656671) = (10656671 : Int64) := by decide
theorem kw_12527906 : Int64.ofInt (12527906) = (12527906 : Int64) := by decide
theorem kw_38567165 : Int64.ofInt (38567165) = (38567165 : Int64) := by decide
theorem kw_43823245 : Int64.ofInt (43823245) = (43823245 : Int64) := by decide
theorem kw_87024528 : Int64.ofInt (87024528) = (87024528 : Int64) := by decide
theorem kw_180242487 : Int64.ofInt (180242487) = (180242487 : Int64) := by decide
theorem kw_194907051 : Int64.ofInt (194907051) = (194907051 : Int64) := by decide
theorem kw_277800912 : Int64.ofInt (277800912) = (277800912 : Int64) := by decide
theorem kw_453117379 : Int64.ofInt (453117379) = (453117379 : Int64) := by decide
theorem kw_1103515245 : Int64.ofInt (1103515245) = (1103515245 : Int64) := by decide
theorem kw_1421140441 : Int64.ofInt (1421140441) = (1421140441 : Int64) := by decide
theorem kw_2147483648 : Int64.ofInt (2147483648) = (2147483648 : Int64) := by decide
theorem kw_4294967295 : Int64.ofInt (4294967295) = (4294967295 : Int64) := by decide
theorem kw_7500624643 : Int64.ofInt (7500624643) = (7500624643 : Int64) := by decide
theorem kw_8659005332 : Int64.ofInt (8659005332) = (8659005332 : Int64) := by decide
theorem kw_10000000000000000 : Int64.ofInt (10000000000000000) = (10000000000000000 : Int64) := by decide
theorem q_swd_0_3 {x : Int32} (h0 : ¬ x = (0 : Int32)) (h1 : ¬ x = (1 : Int32)) (h2 : ¬ x = (2 : Int32)) (h3 : ¬ x = (3 : Int32)) : x.toInt < (0 : Int) ∨ (3 : Int) < x.toInt := q_sw_out (fun k g1 g2 g3 => by
  have e : x = Int32.ofInt k := by rw [← g3, Int32.ofInt_toInt]
  have hk : k = 0 ∨ k = 1 ∨ k = 2 ∨ k = 3 := by omega
  rcases hk with rfl | rfl | rfl | rfl
  · exact h0 e
  · exact h1 e
  · exact h2 e
  · exact h3 e)
theorem q_swd_0_4 {x : Int32} (h0 : ¬ x = (0 : Int32)) (h1 : ¬ x = (1 : Int32)) (h2 : ¬ x = (2 : Int32)) (h3 : ¬ x = (3 : Int32)) (h4 : ¬ x = (4 : Int32)) : x.toInt < (0 : Int) ∨ (4 : Int) < x.toInt := q_sw_out (fun k g1 g2 g3 => by
  have e : x = Int32.ofInt k := by rw [← g3, Int32.ofInt_toInt]
  have hk : k = 0 ∨ k = 1 ∨ k = 2 ∨ k = 3 ∨ k = 4 := by omega
  rcases hk with rfl | rfl | rfl | rfl | rfl
  · exact h0 e
  · exact h1 e
  · exact h2 e
  · exact h3 e
  · exact h4 e)
theorem q_swd_0_7 {x : Int32} (h0 : ¬ x = (0 : Int32)) (h1 : ¬ x = (1 : Int32)) (h2 : ¬ x = (2 : Int32)) (h3 : ¬ x = (3 : Int32)) (h4 : ¬ x = (4 : Int32)) (h5 : ¬ x = (5 : Int32)) (h6 : ¬ x = (6 : Int32)) (h7 : ¬ x = (7 : Int32)) : x.toInt < (0 : Int) ∨ (7 : Int) < x.toInt := q_sw_out (fun k g1 g2 g3 => by
  have e : x = Int32.ofInt k := by rw [← g3, Int32.ofInt_toInt]
  have hk : k = 0 ∨ k = 1 ∨ k = 2 ∨ k = 3 ∨ k = 4 ∨ k = 5 ∨ k = 6 ∨ k = 7 := by omega
  rcases hk with rfl | rfl | rfl | rfl | rfl | rfl | rfl | rfl
  · exact h0 e
  · exact h1 e
  · exact h2 e
  · exact h3 e
  · exact h4 e
  · exact h5 e
  · exact h6 e
  · exact h7 e)
theorem q_swd_0_44 {x : Int32} (h0 : ¬ x = (0 : Int32)) (h1 : ¬ x = (1 : Int32)) (h2 : ¬ x = (2 : Int32)) (h3 : ¬ x = (3 : Int32)) (h4 : ¬ x = (4 : Int32)) (h5 : ¬ x = (5 : Int32)) (h6 : ¬ x = (6 : Int32)) (h7 : ¬ x = (7 : Int32)) (h8 : ¬ x = (8 : Int32)) (h9 : ¬ x = (9 : Int32)) (h10 : ¬ x = (10 : Int32)) (h11 : ¬ x = (11 : Int32)) (h12 : ¬ x = (12 : Int32)) (h13 : ¬ x = (13 : Int32)) (h14 : ¬ x = (14 : Int32)) (h15 : ¬ x = (15 : Int32)) (h16 : ¬ x = (16 : Int32)) (h17 : ¬ x = (17 : Int32)) (h18 : ¬ x = (18 : Int32)) (h19 : ¬ x = (19 : Int32)) (h20 : ¬ x = (20 : Int32)) (h21 : ¬ x = (21 : Int32)) (h22 : ¬ x = (22 : Int32)) (h23 : ¬ x = (23 : Int32)) (h24 : ¬ x = (24 : Int32)) (h25 : ¬ x = (25 : Int32)) (h26 : ¬ x = (26 : Int32)) (h27 : ¬ x = (27 : Int32)) (h28 : ¬ x = (28 : Int32)) (h29 : ¬ x = (29 : Int32)) (h30 : ¬ x = (30 : Int32)) (h31 : ¬ x = (31 : Int32)) (h32 : ¬ x = (32 : Int32)) (h33 : ¬ x = (33 : Int32)) (h34 : ¬ x = (34 : Int32)) (h35 : ¬ x = (35 : Int32)) (h36 : ¬ x = (36 : Int32)) (h37 : ¬ x = (37 : Int32)) (h38 : ¬ x = (38 : Int32)) (h39 : ¬ x = (39 : Int32)) (h40 : ¬ x = (40 : Int32)) (h41 : ¬ x = (41 : Int32)) (h42 : ¬ x = (42 : Int32)) (h43 : ¬ x = (43 : Int32)) (h44 : ¬ x = (44 : Int32)) : x.toInt < (0 : Int) ∨ (44 : Int) < x.toInt := q_sw_out (fun k g1 g2 g3 => by
  have e : x = Int32.ofInt k := by rw [← g3, Int32.ofInt_toInt]
  have hk : k = 0 ∨ k = 1 ∨ k = 2 ∨ k = 3 ∨ k = 4 ∨ k = 5 ∨ k = 6 ∨ k = 7 ∨ k = 8 ∨ k = 9 ∨ k = 10 ∨ k = 11 ∨ k = 12 ∨ k = 13 ∨ k = 14 ∨ k = 15 ∨ k = 16 ∨ k = 17 ∨ k = 18 ∨ k = 19 ∨ k = 20 ∨ k = 21 ∨ k = 22 ∨ k = 23 ∨ k = 24 ∨ k = 25 ∨ k = 26 ∨ k = 27 ∨ k = 28 ∨ k = 29 ∨ k = 30 ∨ k = 31 ∨ k = 32 ∨ k = 33 ∨ k = 34 ∨ k = 35 ∨ k = 36 ∨ k = 37 ∨ k = 38 ∨ k = 39 ∨ k = 40 ∨ k = 41 ∨ k = 42 ∨ k = 43 ∨ k = 44 := by omega
  rcases hk with rfl | rfl | rfl | rfl | rfl | rfl | rfl | rfl | rfl | rfl | rfl | rfl | rfl | rfl | rfl | rfl | rfl | rfl | rfl | rfl | rfl | rfl | rfl | rfl | rfl | rfl | rfl | rfl | rfl | rfl | rfl | rfl | rfl | rfl | rfl | rfl | rfl | rfl | rfl | rfl | rfl | rfl | rfl | rfl | rfl
  · exact h0 e
  · exact h1 e
  · exact h2 e
  · exact h3 e
  · exact h4 e
  · exact h5 e
  · exact h6 e
  · exact h7 e
  · exact h8 e
  · exact h9 e
  · exact h10 e
  · exact h11 e
  · exact h12 e
  · exact h13 e
  · exact h14 e
  · exact h15 e
  · exact h16 e
  · exact h17 e
  · exact h18 e
  · exact h19 e
  · exact h20 e
  · exact h21 e
  · exact h22 e
  · exact h23 e
  · exact h24 e
  · exact h25 e
  · exact h26 e
  · exact h27 e
  · exact h28 e
  · exact h29 e
  · exact h30 e
  · exact h31 e
  · exact h32 e
  · exact h33 e
  · exact h34 e
  · exact h35 e
  · exact h36 e
  · exact h37 e
  · exact h38 e
  · exact h39 e
  · exact h40 e
  · exact h41 e
  · exact h42 e
  · exact h43 e
  · exact h44 e)
theorem q_swd_20002_20007 {x : Int32} (h20002 : ¬ x = (20002 : Int32)) (h20003 : ¬ x = (20003 : Int32)) (h20004 : ¬ x = (20004 : Int32)) (h20005 : ¬ x = (20005 : Int32)) (h20006 : ¬ x = (20006 : Int32)) (h20007 : ¬ x = (20007 : Int32)) : x.toInt < (20002 : Int) ∨ (20007 : Int) < x.toInt := q_sw_out (fun k g1 g2 g3 => by
  have e : x = Int32.ofInt k := by rw [← g3, Int32.ofInt_toInt]
  have hk : k = 20002 ∨ k = 20003 ∨ k = 20004 ∨ k = 20005 ∨ k = 20006 ∨ k = 20007 := by omega
  rcases hk with rfl | rfl | rfl | rfl | rfl | rfl
  · exact h20002 e
  · exact h20003 e
  · exact h20004 e
  · exact h20005 e
  · exact h20006 e
  · exact h20007 e)
