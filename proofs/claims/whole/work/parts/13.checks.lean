theorem am_ly0_0 : u_lay RX0 TX0 0 ∈ am_ts := am_ts_of (am_in2 (List.mem_of_getElem? (i := 169) (by decide +kernel))) (by decide +kernel)
theorem am_ly0_1 : u_lay RX0 TX0 1 ∈ am_ts := am_ts_of (am_in2 (List.mem_of_getElem? (i := 171) (by decide +kernel))) (by decide +kernel)
theorem am_ly0_2 : u_lay RX0 TX0 2 ∈ am_ts := am_ts_of (am_in2 (List.mem_of_getElem? (i := 173) (by decide +kernel))) (by decide +kernel)
theorem am_ly0_3 : u_lay RX0 TX0 3 ∈ am_ts := am_ts_of (am_in2 (List.mem_of_getElem? (i := 175) (by decide +kernel))) (by decide +kernel)
theorem am_ly0_4 : u_lay RX0 TX0 4 ∈ am_ts := am_ts_of (am_in2 (List.mem_of_getElem? (i := 177) (by decide +kernel))) (by decide +kernel)
theorem am_ly0_5 : u_lay RX0 TX0 5 ∈ am_ts := am_ts_of (am_in2 (List.mem_of_getElem? (i := 179) (by decide +kernel))) (by decide +kernel)
theorem am_ly0_6 : u_lay RX0 TX0 6 ∈ am_ts := am_ts_of (am_in2 (List.mem_of_getElem? (i := 181) (by decide +kernel))) (by decide +kernel)
theorem am_ly0_7 : u_lay RX0 TX0 7 ∈ am_ts := am_ts_of (am_in2 (List.mem_of_getElem? (i := 183) (by decide +kernel))) (by decide +kernel)
theorem am_ly0_8 : u_lay RX0 TX0 8 ∈ am_ts := am_ts_of (am_in2 (List.mem_of_getElem? (i := 185) (by decide +kernel))) (by decide +kernel)
theorem am_ly0_9 : u_lay RX0 TX0 9 ∈ am_ts := am_ts_of (am_in2 (List.mem_of_getElem? (i := 187) (by decide +kernel))) (by decide +kernel)
theorem am_lay0 : ∀ k, k < 10 → u_lay RX0 TX0 k ∈ am_ts := fun k hk => match k, hk with
  | 0, _ => am_ly0_0
  | 1, _ => am_ly0_1
  | 2, _ => am_ly0_2
  | 3, _ => am_ly0_3
  | 4, _ => am_ly0_4
  | 5, _ => am_ly0_5
  | 6, _ => am_ly0_6
  | 7, _ => am_ly0_7
  | 8, _ => am_ly0_8
  | 9, _ => am_ly0_9
  | j + 10, h => absurd h (by omega)
theorem am_ly1_0 : u_lay RX1 TX1 0 ∈ am_ts := am_ts_of (am_in2 (List.mem_of_getElem? (i := 208) (by decide +kernel))) (by decide +kernel)
theorem am_ly1_1 : u_lay RX1 TX1 1 ∈ am_ts := am_ts_of (am_in2 (List.mem_of_getElem? (i := 210) (by decide +kernel))) (by decide +kernel)
theorem am_ly1_2 : u_lay RX1 TX1 2 ∈ am_ts := am_ts_of (am_in2 (List.mem_of_getElem? (i := 212) (by decide +kernel))) (by decide +kernel)
theorem am_ly1_3 : u_lay RX1 TX1 3 ∈ am_ts := am_ts_of (am_in2 (List.mem_of_getElem? (i := 214) (by decide +kernel))) (by decide +kernel)
theorem am_ly1_4 : u_lay RX1 TX1 4 ∈ am_ts := am_ts_of (am_in2 (List.mem_of_getElem? (i := 216) (by decide +kernel))) (by decide +kernel)
theorem am_ly1_5 : u_lay RX1 TX1 5 ∈ am_ts := am_ts_of (am_in2 (List.mem_of_getElem? (i := 218) (by decide +kernel))) (by decide +kernel)
theorem am_ly1_6 : u_lay RX1 TX1 6 ∈ am_ts := am_ts_of (am_in2 (List.mem_of_getElem? (i := 220) (by decide +kernel))) (by decide +kernel)
theorem am_ly1_7 : u_lay RX1 TX1 7 ∈ am_ts := am_ts_of (am_in2 (List.mem_of_getElem? (i := 222) (by decide +kernel))) (by decide +kernel)
theorem am_ly1_8 : u_lay RX1 TX1 8 ∈ am_ts := am_ts_of (am_in2 (List.mem_of_getElem? (i := 224) (by decide +kernel))) (by decide +kernel)
theorem am_ly1_9 : u_lay RX1 TX1 9 ∈ am_ts := am_ts_of (am_in2 (List.mem_of_getElem? (i := 226) (by decide +kernel))) (by decide +kernel)
theorem am_lay1 : ∀ k, k < 10 → u_lay RX1 TX1 k ∈ am_ts := fun k hk => match k, hk with
  | 0, _ => am_ly1_0
  | 1, _ => am_ly1_1
  | 2, _ => am_ly1_2
  | 3, _ => am_ly1_3
  | 4, _ => am_ly1_4
  | 5, _ => am_ly1_5
  | 6, _ => am_ly1_6
  | 7, _ => am_ly1_7
  | 8, _ => am_ly1_8
  | 9, _ => am_ly1_9
  | j + 10, h => absurd h (by omega)
theorem am_ly2_0 : u_lay RX2 TX2 0 ∈ am_ts := am_ts_of (am_in2 (List.mem_of_getElem? (i := 38) (by decide +kernel))) (by decide +kernel)
theorem am_ly2_1 : u_lay RX2 TX2 1 ∈ am_ts := am_ts_of (am_in2 (List.mem_of_getElem? (i := 40) (by decide +kernel))) (by decide +kernel)
theorem am_ly2_2 : u_lay RX2 TX2 2 ∈ am_ts := am_ts_of (am_in2 (List.mem_of_getElem? (i := 42) (by decide +kernel))) (by decide +kernel)
theorem am_ly2_3 : u_lay RX2 TX2 3 ∈ am_ts := am_ts_of (am_in2 (List.mem_of_getElem? (i := 44) (by decide +kernel))) (by decide +kernel)
theorem am_ly2_4 : u_lay RX2 TX2 4 ∈ am_ts := am_ts_of (am_in2 (List.mem_of_getElem? (i := 46) (by decide +kernel))) (by decide +kernel)
theorem am_lay2 : ∀ k, k < 5 → u_lay RX2 TX2 k ∈ am_ts := fun k hk => match k, hk with
  | 0, _ => am_ly2_0
  | 1, _ => am_ly2_1
  | 2, _ => am_ly2_2
  | 3, _ => am_ly2_3
  | 4, _ => am_ly2_4
  | j + 5, h => absurd h (by omega)
theorem am_ly3_0 : u_lay RX3 TX3 0 ∈ am_ts := am_ts_of (am_in1 (List.mem_of_getElem? (i := 61) (by decide +kernel))) (by decide +kernel)
theorem am_ly3_1 : u_lay RX3 TX3 1 ∈ am_ts := am_ts_of (am_in1 (List.mem_of_getElem? (i := 63) (by decide +kernel))) (by decide +kernel)
theorem am_ly3_2 : u_lay RX3 TX3 2 ∈ am_ts := am_ts_of (am_in1 (List.mem_of_getElem? (i := 65) (by decide +kernel))) (by decide +kernel)
theorem am_ly3_3 : u_lay RX3 TX3 3 ∈ am_ts := am_ts_of (am_in1 (List.mem_of_getElem? (i := 67) (by decide +kernel))) (by decide +kernel)
theorem am_ly3_4 : u_lay RX3 TX3 4 ∈ am_ts := am_ts_of (am_in1 (List.mem_of_getElem? (i := 69) (by decide +kernel))) (by decide +kernel)
theorem am_ly3_5 : u_lay RX3 TX3 5 ∈ am_ts := am_ts_of (am_in1 (List.mem_of_getElem? (i := 71) (by decide +kernel))) (by decide +kernel)
theorem am_lay3 : ∀ k, k < 6 → u_lay RX3 TX3 k ∈ am_ts := fun k hk => match k, hk with
  | 0, _ => am_ly3_0
  | 1, _ => am_ly3_1
  | 2, _ => am_ly3_2
  | 3, _ => am_ly3_3
  | 4, _ => am_ly3_4
  | 5, _ => am_ly3_5
  | j + 6, h => absurd h (by omega)
theorem am_ly4_0 : u_lay RX4 TX4 0 ∈ am_ts := am_ts_of (am_in2 (List.mem_of_getElem? (i := 59) (by decide +kernel))) (by decide +kernel)
theorem am_ly4_1 : u_lay RX4 TX4 1 ∈ am_ts := am_ts_of (am_in2 (List.mem_of_getElem? (i := 61) (by decide +kernel))) (by decide +kernel)
theorem am_ly4_2 : u_lay RX4 TX4 2 ∈ am_ts := am_ts_of (am_in2 (List.mem_of_getElem? (i := 63) (by decide +kernel))) (by decide +kernel)
theorem am_ly4_3 : u_lay RX4 TX4 3 ∈ am_ts := am_ts_of (am_in2 (List.mem_of_getElem? (i := 65) (by decide +kernel))) (by decide +kernel)
theorem am_ly4_4 : u_lay RX4 TX4 4 ∈ am_ts := am_ts_of (am_in2 (List.mem_of_getElem? (i := 67) (by decide +kernel))) (by decide +kernel)
theorem am_ly4_5 : u_lay RX4 TX4 5 ∈ am_ts := am_ts_of (am_in2 (List.mem_of_getElem? (i := 69) (by decide +kernel))) (by decide +kernel)
theorem am_ly4_6 : u_lay RX4 TX4 6 ∈ am_ts := am_ts_of (am_in2 (List.mem_of_getElem? (i := 71) (by decide +kernel))) (by decide +kernel)
theorem am_ly4_7 : u_lay RX4 TX4 7 ∈ am_ts := am_ts_of (am_in2 (List.mem_of_getElem? (i := 73) (by decide +kernel))) (by decide +kernel)
theorem am_lay4 : ∀ k, k < 8 → u_lay RX4 TX4 k ∈ am_ts := fun k hk => match k, hk with
  | 0, _ => am_ly4_0
  | 1, _ => am_ly4_1
  | 2, _ => am_ly4_2
  | 3, _ => am_ly4_3
  | 4, _ => am_ly4_4
  | 5, _ => am_ly4_5
  | 6, _ => am_ly4_6
  | 7, _ => am_ly4_7
  | j + 8, h => absurd h (by omega)
theorem am_ly5_0 : u_lay RX5 TX5 0 ∈ am_ts := am_ts_of (am_in3 (List.mem_of_getElem? (i := 6) (by decide +kernel))) (by decide +kernel)
theorem am_ly5_1 : u_lay RX5 TX5 1 ∈ am_ts := am_ts_of (am_in3 (List.mem_of_getElem? (i := 8) (by decide +kernel))) (by decide +kernel)
theorem am_ly5_2 : u_lay RX5 TX5 2 ∈ am_ts := am_ts_of (am_in3 (List.mem_of_getElem? (i := 10) (by decide +kernel))) (by decide +kernel)
theorem am_ly5_3 : u_lay RX5 TX5 3 ∈ am_ts := am_ts_of (am_in3 (List.mem_of_getElem? (i := 12) (by decide +kernel))) (by decide +kernel)
theorem am_ly5_4 : u_lay RX5 TX5 4 ∈ am_ts := am_ts_of (am_in3 (List.mem_of_getElem? (i := 14) (by decide +kernel))) (by decide +kernel)
theorem am_ly5_5 : u_lay RX5 TX5 5 ∈ am_ts := am_ts_of (am_in3 (List.mem_of_getElem? (i := 16) (by decide +kernel))) (by decide +kernel)
theorem am_ly5_6 : u_lay RX5 TX5 6 ∈ am_ts := am_ts_of (am_in3 (List.mem_of_getElem? (i := 18) (by decide +kernel))) (by decide +kernel)
theorem am_ly5_7 : u_lay RX5 TX5 7 ∈ am_ts := am_ts_of (am_in3 (List.mem_of_getElem? (i := 20) (by decide +kernel))) (by decide +kernel)
theorem am_ly5_8 : u_lay RX5 TX5 8 ∈ am_ts := am_ts_of (am_in3 (List.mem_of_getElem? (i := 22) (by decide +kernel))) (by decide +kernel)
theorem am_lay5 : ∀ k, k < 9 → u_lay RX5 TX5 k ∈ am_ts := fun k hk => match k, hk with
  | 0, _ => am_ly5_0
  | 1, _ => am_ly5_1
  | 2, _ => am_ly5_2
  | 3, _ => am_ly5_3
  | 4, _ => am_ly5_4
  | 5, _ => am_ly5_5
  | 6, _ => am_ly5_6
  | 7, _ => am_ly5_7
  | 8, _ => am_ly5_8
  | j + 9, h => absurd h (by omega)
theorem am_ly6_0 : u_lay RX6 TX6 0 ∈ am_ts := am_ts_of (am_in1 (List.mem_of_getElem? (i := 142) (by decide +kernel))) (by decide +kernel)
theorem am_ly6_1 : u_lay RX6 TX6 1 ∈ am_ts := am_ts_of (am_in1 (List.mem_of_getElem? (i := 144) (by decide +kernel))) (by decide +kernel)
theorem am_ly6_2 : u_lay RX6 TX6 2 ∈ am_ts := am_ts_of (am_in1 (List.mem_of_getElem? (i := 146) (by decide +kernel))) (by decide +kernel)
theorem am_ly6_3 : u_lay RX6 TX6 3 ∈ am_ts := am_ts_of (am_in1 (List.mem_of_getElem? (i := 148) (by decide +kernel))) (by decide +kernel)
theorem am_ly6_4 : u_lay RX6 TX6 4 ∈ am_ts := am_ts_of (am_in1 (List.mem_of_getElem? (i := 150) (by decide +kernel))) (by decide +kernel)
theorem am_ly6_5 : u_lay RX6 TX6 5 ∈ am_ts := am_ts_of (am_in1 (List.mem_of_getElem? (i := 152) (by decide +kernel))) (by decide +kernel)
theorem am_ly6_6 : u_lay RX6 TX6 6 ∈ am_ts := am_ts_of (am_in1 (List.mem_of_getElem? (i := 154) (by decide +kernel))) (by decide +kernel)
theorem am_ly6_7 : u_lay RX6 TX6 7 ∈ am_ts := am_ts_of (am_in1 (List.mem_of_getElem? (i := 156) (by decide +kernel))) (by decide +kernel)
theorem am_ly6_8 : u_lay RX6 TX6 8 ∈ am_ts := am_ts_of (am_in1 (List.mem_of_getElem? (i := 158) (by decide +kernel))) (by decide +kernel)
theorem am_ly6_9 : u_lay RX6 TX6 9 ∈ am_ts := am_ts_of (am_in1 (List.mem_of_getElem? (i := 160) (by decide +kernel))) (by decide +kernel)
theorem am_ly6_10 : u_lay RX6 TX6 10 ∈ am_ts := am_ts_of (am_in1 (List.mem_of_getElem? (i := 162) (by decide +kernel))) (by decide +kernel)
theorem am_ly6_11 : u_lay RX6 TX6 11 ∈ am_ts := am_ts_of (am_in1 (List.mem_of_getElem? (i := 164) (by decide +kernel))) (by decide +kernel)
theorem am_ly6_12 : u_lay RX6 TX6 12 ∈ am_ts := am_ts_of (am_in1 (List.mem_of_getElem? (i := 166) (by decide +kernel))) (by decide +kernel)
theorem am_ly6_13 : u_lay RX6 TX6 13 ∈ am_ts := am_ts_of (am_in1 (List.mem_of_getElem? (i := 168) (by decide +kernel))) (by decide +kernel)
theorem am_ly6_14 : u_lay RX6 TX6 14 ∈ am_ts := am_ts_of (am_in1 (List.mem_of_getElem? (i := 170) (by decide +kernel))) (by decide +kernel)
theorem am_ly6_15 : u_lay RX6 TX6 15 ∈ am_ts := am_ts_of (am_in1 (List.mem_of_getElem? (i := 172) (by decide +kernel))) (by decide +kernel)
theorem am_ly6_16 : u_lay RX6 TX6 16 ∈ am_ts := am_ts_of (am_in1 (List.mem_of_getElem? (i := 174) (by decide +kernel))) (by decide +kernel)
theorem am_ly6_17 : u_lay RX6 TX6 17 ∈ am_ts := am_ts_of (am_in1 (List.mem_of_getElem? (i := 176) (by decide +kernel))) (by decide +kernel)
theorem am_lay6 : ∀ k, k < 18 → u_lay RX6 TX6 k ∈ am_ts := fun k hk => match k, hk with
  | 0, _ => am_ly6_0
  | 1, _ => am_ly6_1
  | 2, _ => am_ly6_2
  | 3, _ => am_ly6_3
  | 4, _ => am_ly6_4
  | 5, _ => am_ly6_5
  | 6, _ => am_ly6_6
  | 7, _ => am_ly6_7
  | 8, _ => am_ly6_8
  | 9, _ => am_ly6_9
  | 10, _ => am_ly6_10
  | 11, _ => am_ly6_11
  | 12, _ => am_ly6_12
  | 13, _ => am_ly6_13
  | 14, _ => am_ly6_14
  | 15, _ => am_ly6_15
  | 16, _ => am_ly6_16
  | 17, _ => am_ly6_17
  | j + 18, h => absurd h (by omega)
theorem am_ly7_0 : u_lay RX7 TX7 0 ∈ am_ts := am_ts_of (am_in2 (List.mem_of_getElem? (i := 12) (by decide +kernel))) (by decide +kernel)
theorem am_ly7_1 : u_lay RX7 TX7 1 ∈ am_ts := am_ts_of (am_in2 (List.mem_of_getElem? (i := 14) (by decide +kernel))) (by decide +kernel)
theorem am_ly7_2 : u_lay RX7 TX7 2 ∈ am_ts := am_ts_of (am_in2 (List.mem_of_getElem? (i := 16) (by decide +kernel))) (by decide +kernel)
theorem am_ly7_3 : u_lay RX7 TX7 3 ∈ am_ts := am_ts_of (am_in2 (List.mem_of_getElem? (i := 18) (by decide +kernel))) (by decide +kernel)
theorem am_ly7_4 : u_lay RX7 TX7 4 ∈ am_ts := am_ts_of (am_in2 (List.mem_of_getElem? (i := 20) (by decide +kernel))) (by decide +kernel)
theorem am_ly7_5 : u_lay RX7 TX7 5 ∈ am_ts := am_ts_of (am_in2 (List.mem_of_getElem? (i := 22) (by decide +kernel))) (by decide +kernel)
theorem am_ly7_6 : u_lay RX7 TX7 6 ∈ am_ts := am_ts_of (am_in2 (List.mem_of_getElem? (i := 24) (by decide +kernel))) (by decide +kernel)
theorem am_lay7 : ∀ k, k < 7 → u_lay RX7 TX7 k ∈ am_ts := fun k hk => match k, hk with
  | 0, _ => am_ly7_0
  | 1, _ => am_ly7_1
  | 2, _ => am_ly7_2
  | 3, _ => am_ly7_3
  | 4, _ => am_ly7_4
  | 5, _ => am_ly7_5
  | 6, _ => am_ly7_6
  | j + 7, h => absurd h (by omega)
theorem am_ly8_0 : u_lay RX8 TX8 0 ∈ am_ts := am_ts_of (am_in2 (List.mem_of_getElem? (i := 124) (by decide +kernel))) (by decide +kernel)
theorem am_ly8_1 : u_lay RX8 TX8 1 ∈ am_ts := am_ts_of (am_in2 (List.mem_of_getElem? (i := 126) (by decide +kernel))) (by decide +kernel)
theorem am_ly8_2 : u_lay RX8 TX8 2 ∈ am_ts := am_ts_of (am_in2 (List.mem_of_getElem? (i := 128) (by decide +kernel))) (by decide +kernel)
theorem am_ly8_3 : u_lay RX8 TX8 3 ∈ am_ts := am_ts_of (am_in2 (List.mem_of_getElem? (i := 130) (by decide +kernel))) (by decide +kernel)
theorem am_ly8_4 : u_lay RX8 TX8 4 ∈ am_ts := am_ts_of (am_in2 (List.mem_of_getElem? (i := 132) (by decide +kernel))) (by decide +kernel)
theorem am_ly8_5 : u_lay RX8 TX8 5 ∈ am_ts := am_ts_of (am_in2 (List.mem_of_getElem? (i := 134) (by decide +kernel))) (by decide +kernel)
theorem am_ly8_6 : u_lay RX8 TX8 6 ∈ am_ts := am_ts_of (am_in2 (List.mem_of_getElem? (i := 136) (by decide +kernel))) (by decide +kernel)
theorem am_ly8_7 : u_lay RX8 TX8 7 ∈ am_ts := am_ts_of (am_in2 (List.mem_of_getElem? (i := 138) (by decide +kernel))) (by decide +kernel)
theorem am_ly8_8 : u_lay RX8 TX8 8 ∈ am_ts := am_ts_of (am_in2 (List.mem_of_getElem? (i := 140) (by decide +kernel))) (by decide +kernel)
theorem am_ly8_9 : u_lay RX8 TX8 9 ∈ am_ts := am_ts_of (am_in2 (List.mem_of_getElem? (i := 142) (by decide +kernel))) (by decide +kernel)
theorem am_ly8_10 : u_lay RX8 TX8 10 ∈ am_ts := am_ts_of (am_in2 (List.mem_of_getElem? (i := 144) (by decide +kernel))) (by decide +kernel)
theorem am_ly8_11 : u_lay RX8 TX8 11 ∈ am_ts := am_ts_of (am_in2 (List.mem_of_getElem? (i := 146) (by decide +kernel))) (by decide +kernel)
theorem am_lay8 : ∀ k, k < 12 → u_lay RX8 TX8 k ∈ am_ts := fun k hk => match k, hk with
  | 0, _ => am_ly8_0
  | 1, _ => am_ly8_1
  | 2, _ => am_ly8_2
  | 3, _ => am_ly8_3
  | 4, _ => am_ly8_4
  | 5, _ => am_ly8_5
  | 6, _ => am_ly8_6
  | 7, _ => am_ly8_7
  | 8, _ => am_ly8_8
  | 9, _ => am_ly8_9
  | 10, _ => am_ly8_10
  | 11, _ => am_ly8_11
  | j + 12, h => absurd h (by omega)
theorem am_ly9_0 : u_lay RX9 TX9 0 ∈ am_ts := am_ts_of (am_in3 (List.mem_of_getElem? (i := 46) (by decide +kernel))) (by decide +kernel)
theorem am_ly9_1 : u_lay RX9 TX9 1 ∈ am_ts := am_ts_of (am_in3 (List.mem_of_getElem? (i := 48) (by decide +kernel))) (by decide +kernel)
theorem am_ly9_2 : u_lay RX9 TX9 2 ∈ am_ts := am_ts_of (am_in3 (List.mem_of_getElem? (i := 50) (by decide +kernel))) (by decide +kernel)
theorem am_ly9_3 : u_lay RX9 TX9 3 ∈ am_ts := am_ts_of (am_in3 (List.mem_of_getElem? (i := 52) (by decide +kernel))) (by decide +kernel)
theorem am_ly9_4 : u_lay RX9 TX9 4 ∈ am_ts := am_ts_of (am_in3 (List.mem_of_getElem? (i := 54) (by decide +kernel))) (by decide +kernel)
theorem am_ly9_5 : u_lay RX9 TX9 5 ∈ am_ts := am_ts_of (am_in3 (List.mem_of_getElem? (i := 56) (by decide +kernel))) (by decide +kernel)
theorem am_ly9_6 : u_lay RX9 TX9 6 ∈ am_ts := am_ts_of (am_in3 (List.mem_of_getElem? (i := 58) (by decide +kernel))) (by decide +kernel)
theorem am_ly9_7 : u_lay RX9 TX9 7 ∈ am_ts := am_ts_of (am_in3 (List.mem_of_getElem? (i := 60) (by decide +kernel))) (by decide +kernel)
theorem am_ly9_8 : u_lay RX9 TX9 8 ∈ am_ts := am_ts_of (am_in3 (List.mem_of_getElem? (i := 62) (by decide +kernel))) (by decide +kernel)
theorem am_ly9_9 : u_lay RX9 TX9 9 ∈ am_ts := am_ts_of (am_in3 (List.mem_of_getElem? (i := 64) (by decide +kernel))) (by decide +kernel)
theorem am_ly9_10 : u_lay RX9 TX9 10 ∈ am_ts := am_ts_of (am_in3 (List.mem_of_getElem? (i := 66) (by decide +kernel))) (by decide +kernel)
theorem am_ly9_11 : u_lay RX9 TX9 11 ∈ am_ts := am_ts_of (am_in3 (List.mem_of_getElem? (i := 68) (by decide +kernel))) (by decide +kernel)
theorem am_ly9_12 : u_lay RX9 TX9 12 ∈ am_ts := am_ts_of (am_in3 (List.mem_of_getElem? (i := 70) (by decide +kernel))) (by decide +kernel)
theorem am_ly9_13 : u_lay RX9 TX9 13 ∈ am_ts := am_ts_of (am_in3 (List.mem_of_getElem? (i := 72) (by decide +kernel))) (by decide +kernel)
theorem am_ly9_14 : u_lay RX9 TX9 14 ∈ am_ts := am_ts_of (am_in3 (List.mem_of_getElem? (i := 74) (by decide +kernel))) (by decide +kernel)
theorem am_ly9_15 : u_lay RX9 TX9 15 ∈ am_ts := am_ts_of (am_in3 (List.mem_of_getElem? (i := 76) (by decide +kernel))) (by decide +kernel)
theorem am_lay9 : ∀ k, k < 16 → u_lay RX9 TX9 k ∈ am_ts := fun k hk => match k, hk with
  | 0, _ => am_ly9_0
  | 1, _ => am_ly9_1
  | 2, _ => am_ly9_2
  | 3, _ => am_ly9_3
  | 4, _ => am_ly9_4
  | 5, _ => am_ly9_5
  | 6, _ => am_ly9_6
  | 7, _ => am_ly9_7
  | 8, _ => am_ly9_8
  | 9, _ => am_ly9_9
  | 10, _ => am_ly9_10
  | 11, _ => am_ly9_11
  | 12, _ => am_ly9_12
  | 13, _ => am_ly9_13
  | 14, _ => am_ly9_14
  | 15, _ => am_ly9_15
  | j + 16, h => absurd h (by omega)
theorem am_ly10_0 : u_lay RX10 TX10 0 ∈ am_ts := am_ts_of (am_in6 (List.mem_of_getElem? (i := 75) (by decide +kernel))) (by decide +kernel)
theorem am_ly10_1 : u_lay RX10 TX10 1 ∈ am_ts := am_ts_of (am_in6 (List.mem_of_getElem? (i := 77) (by decide +kernel))) (by decide +kernel)
theorem am_ly10_2 : u_lay RX10 TX10 2 ∈ am_ts := am_ts_of (am_in6 (List.mem_of_getElem? (i := 79) (by decide +kernel))) (by decide +kernel)
theorem am_ly10_3 : u_lay RX10 TX10 3 ∈ am_ts := am_ts_of (am_in6 (List.mem_of_getElem? (i := 81) (by decide +kernel))) (by decide +kernel)
theorem am_ly10_4 : u_lay RX10 TX10 4 ∈ am_ts := am_ts_of (am_in6 (List.mem_of_getElem? (i := 83) (by decide +kernel))) (by decide +kernel)
theorem am_ly10_5 : u_lay RX10 TX10 5 ∈ am_ts := am_ts_of (am_in6 (List.mem_of_getElem? (i := 85) (by decide +kernel))) (by decide +kernel)
theorem am_ly10_6 : u_lay RX10 TX10 6 ∈ am_ts := am_ts_of (am_in6 (List.mem_of_getElem? (i := 87) (by decide +kernel))) (by decide +kernel)
theorem am_ly10_7 : u_lay RX10 TX10 7 ∈ am_ts := am_ts_of (am_in6 (List.mem_of_getElem? (i := 89) (by decide +kernel))) (by decide +kernel)
theorem am_ly10_8 : u_lay RX10 TX10 8 ∈ am_ts := am_ts_of (am_in6 (List.mem_of_getElem? (i := 91) (by decide +kernel))) (by decide +kernel)
theorem am_ly10_9 : u_lay RX10 TX10 9 ∈ am_ts := am_ts_of (am_in6 (List.mem_of_getElem? (i := 93) (by decide +kernel))) (by decide +kernel)
theorem am_ly10_10 : u_lay RX10 TX10 10 ∈ am_ts := am_ts_of (am_in6 (List.mem_of_getElem? (i := 95) (by decide +kernel))) (by decide +kernel)
theorem am_ly10_11 : u_lay RX10 TX10 11 ∈ am_ts := am_ts_of (am_in6 (List.mem_of_getElem? (i := 97) (by decide +kernel))) (by decide +kernel)
theorem am_ly10_12 : u_lay RX10 TX10 12 ∈ am_ts := am_ts_of (am_in6 (List.mem_of_getElem? (i := 99) (by decide +kernel))) (by decide +kernel)
theorem am_ly10_13 : u_lay RX10 TX10 13 ∈ am_ts := am_ts_of (am_in6 (List.mem_of_getElem? (i := 101) (by decide +kernel))) (by decide +kernel)
theorem am_ly10_14 : u_lay RX10 TX10 14 ∈ am_ts := am_ts_of (am_in6 (List.mem_of_getElem? (i := 103) (by decide +kernel))) (by decide +kernel)
theorem am_ly10_15 : u_lay RX10 TX10 15 ∈ am_ts := am_ts_of (am_in6 (List.mem_of_getElem? (i := 105) (by decide +kernel))) (by decide +kernel)
theorem am_ly10_16 : u_lay RX10 TX10 16 ∈ am_ts := am_ts_of (am_in6 (List.mem_of_getElem? (i := 107) (by decide +kernel))) (by decide +kernel)
theorem am_ly10_17 : u_lay RX10 TX10 17 ∈ am_ts := am_ts_of (am_in6 (List.mem_of_getElem? (i := 109) (by decide +kernel))) (by decide +kernel)
theorem am_ly10_18 : u_lay RX10 TX10 18 ∈ am_ts := am_ts_of (am_in6 (List.mem_of_getElem? (i := 111) (by decide +kernel))) (by decide +kernel)
theorem am_ly10_19 : u_lay RX10 TX10 19 ∈ am_ts := am_ts_of (am_in6 (List.mem_of_getElem? (i := 113) (by decide +kernel))) (by decide +kernel)
theorem am_ly10_20 : u_lay RX10 TX10 20 ∈ am_ts := am_ts_of (am_in6 (List.mem_of_getElem? (i := 115) (by decide +kernel))) (by decide +kernel)
theorem am_ly10_21 : u_lay RX10 TX10 21 ∈ am_ts := am_ts_of (am_in6 (List.mem_of_getElem? (i := 117) (by decide +kernel))) (by decide +kernel)
theorem am_ly10_22 : u_lay RX10 TX10 22 ∈ am_ts := am_ts_of (am_in6 (List.mem_of_getElem? (i := 119) (by decide +kernel))) (by decide +kernel)
theorem am_ly10_23 : u_lay RX10 TX10 23 ∈ am_ts := am_ts_of (am_in6 (List.mem_of_getElem? (i := 121) (by decide +kernel))) (by decide +kernel)
theorem am_ly10_24 : u_lay RX10 TX10 24 ∈ am_ts := am_ts_of (am_in6 (List.mem_of_getElem? (i := 123) (by decide +kernel))) (by decide +kernel)
theorem am_ly10_25 : u_lay RX10 TX10 25 ∈ am_ts := am_ts_of (am_in6 (List.mem_of_getElem? (i := 125) (by decide +kernel))) (by decide +kernel)
theorem am_ly10_26 : u_lay RX10 TX10 26 ∈ am_ts := am_ts_of (am_in6 (List.mem_of_getElem? (i := 127) (by decide +kernel))) (by decide +kernel)
theorem am_ly10_27 : u_lay RX10 TX10 27 ∈ am_ts := am_ts_of (am_in6 (List.mem_of_getElem? (i := 129) (by decide +kernel))) (by decide +kernel)
theorem am_ly10_28 : u_lay RX10 TX10 28 ∈ am_ts := am_ts_of (am_in6 (List.mem_of_getElem? (i := 131) (by decide +kernel))) (by decide +kernel)
theorem am_ly10_29 : u_lay RX10 TX10 29 ∈ am_ts := am_ts_of (am_in6 (List.mem_of_getElem? (i := 133) (by decide +kernel))) (by decide +kernel)
theorem am_ly10_30 : u_lay RX10 TX10 30 ∈ am_ts := am_ts_of (am_in6 (List.mem_of_getElem? (i := 135) (by decide +kernel))) (by decide +kernel)
theorem am_ly10_31 : u_lay RX10 TX10 31 ∈ am_ts := am_ts_of (am_in6 (List.mem_of_getElem? (i := 137) (by decide +kernel))) (by decide +kernel)
theorem am_ly10_32 : u_lay RX10 TX10 32 ∈ am_ts := am_ts_of (am_in6 (List.mem_of_getElem? (i := 139) (by decide +kernel))) (by decide +kernel)
theorem am_ly10_33 : u_lay RX10 TX10 33 ∈ am_ts := am_ts_of (am_in6 (List.mem_of_getElem? (i := 141) (by decide +kernel))) (by decide +kernel)
theorem am_ly10_34 : u_lay RX10 TX10 34 ∈ am_ts := am_ts_of (am_in6 (List.mem_of_getElem? (i := 143) (by decide +kernel))) (by decide +kernel)
theorem am_ly10_35 : u_lay RX10 TX10 35 ∈ am_ts := am_ts_of (am_in6 (List.mem_of_getElem? (i := 145) (by decide +kernel))) (by decide +kernel)
theorem am_ly10_36 : u_lay RX10 TX10 36 ∈ am_ts := am_ts_of (am_in6 (List.mem_of_getElem? (i := 147) (by decide +kernel))) (by decide +kernel)
theorem am_ly10_37 : u_lay RX10 TX10 37 ∈ am_ts := am_ts_of (am_in6 (List.mem_of_getElem? (i := 149) (by decide +kernel))) (by decide +kernel)
theorem am_ly10_38 : u_lay RX10 TX10 38 ∈ am_ts := am_ts_of (am_in6 (List.mem_of_getElem? (i := 151) (by decide +kernel))) (by decide +kernel)
theorem am_ly10_39 : u_lay RX10 TX10 39 ∈ am_ts := am_ts_of (am_in6 (List.mem_of_getElem? (i := 153) (by decide +kernel))) (by decide +kernel)
theorem am_ly10_40 : u_lay RX10 TX10 40 ∈ am_ts := am_ts_of (am_in6 (List.mem_of_getElem? (i := 155) (by decide +kernel))) (by decide +kernel)
theorem am_ly10_41 : u_lay RX10 TX10 41 ∈ am_ts := am_ts_of (am_in6 (List.mem_of_getElem? (i := 157) (by decide +kernel))) (by decide +kernel)
theorem am_ly10_42 : u_lay RX10 TX10 42 ∈ am_ts := am_ts_of (am_in6 (List.mem_of_getElem? (i := 159) (by decide +kernel))) (by decide +kernel)
theorem am_ly10_43 : u_lay RX10 TX10 43 ∈ am_ts := am_ts_of (am_in6 (List.mem_of_getElem? (i := 161) (by decide +kernel))) (by decide +kernel)
theorem am_ly10_44 : u_lay RX10 TX10 44 ∈ am_ts := am_ts_of (am_in6 (List.mem_of_getElem? (i := 163) (by decide +kernel))) (by decide +kernel)
theorem am_ly10_45 : u_lay RX10 TX10 45 ∈ am_ts := am_ts_of (am_in6 (List.mem_of_getElem? (i := 165) (by decide +kernel))) (by decide +kernel)
theorem am_ly10_46 : u_lay RX10 TX10 46 ∈ am_ts := am_ts_of (am_in6 (List.mem_of_getElem? (i := 167) (by decide +kernel))) (by decide +kernel)
theorem am_ly10_47 : u_lay RX10 TX10 47 ∈ am_ts := am_ts_of (am_in6 (List.mem_of_getElem? (i := 169) (by decide +kernel))) (by decide +kernel)
theorem am_ly10_48 : u_lay RX10 TX10 48 ∈ am_ts := am_ts_of (am_in6 (List.mem_of_getElem? (i := 171) (by decide +kernel))) (by decide +kernel)
theorem am_ly10_49 : u_lay RX10 TX10 49 ∈ am_ts := am_ts_of (am_in6 (List.mem_of_getElem? (i := 173) (by decide +kernel))) (by decide +kernel)
theorem am_ly10_50 : u_lay RX10 TX10 50 ∈ am_ts := am_ts_of (am_in6 (List.mem_of_getElem? (i := 175) (by decide +kernel))) (by decide +kernel)
theorem am_ly10_51 : u_lay RX10 TX10 51 ∈ am_ts := am_ts_of (am_in6 (List.mem_of_getElem? (i := 177) (by decide +kernel))) (by decide +kernel)
theorem am_ly10_52 : u_lay RX10 TX10 52 ∈ am_ts := am_ts_of (am_in6 (List.mem_of_getElem? (i := 179) (by decide +kernel))) (by decide +kernel)
theorem am_ly10_53 : u_lay RX10 TX10 53 ∈ am_ts := am_ts_of (am_in6 (List.mem_of_getElem? (i := 181) (by decide +kernel))) (by decide +kernel)
theorem am_ly10_54 : u_lay RX10 TX10 54 ∈ am_ts := am_ts_of (am_in6 (List.mem_of_getElem? (i := 183) (by decide +kernel))) (by decide +kernel)
theorem am_ly10_55 : u_lay RX10 TX10 55 ∈ am_ts := am_ts_of (am_in6 (List.mem_of_getElem? (i := 185) (by decide +kernel))) (by decide +kernel)
theorem am_ly10_56 : u_lay RX10 TX10 56 ∈ am_ts := am_ts_of (am_in6 (List.mem_of_getElem? (i := 187) (by decide +kernel))) (by decide +kernel)
theorem am_ly10_57 : u_lay RX10 TX10 57 ∈ am_ts := am_ts_of (am_in6 (List.mem_of_getElem? (i := 189) (by decide +kernel))) (by decide +kernel)
theorem am_ly10_58 : u_lay RX10 TX10 58 ∈ am_ts := am_ts_of (am_in6 (List.mem_of_getElem? (i := 191) (by decide +kernel))) (by decide +kernel)
theorem am_ly10_59 : u_lay RX10 TX10 59 ∈ am_ts := am_ts_of (am_in6 (List.mem_of_getElem? (i := 193) (by decide +kernel))) (by decide +kernel)
theorem am_ly10_60 : u_lay RX10 TX10 60 ∈ am_ts := am_ts_of (am_in6 (List.mem_of_getElem? (i := 195) (by decide +kernel))) (by decide +kernel)
theorem am_ly10_61 : u_lay RX10 TX10 61 ∈ am_ts := am_ts_of (am_in6 (List.mem_of_getElem? (i := 197) (by decide +kernel))) (by decide +kernel)
theorem am_ly10_62 : u_lay RX10 TX10 62 ∈ am_ts := am_ts_of (am_in6 (List.mem_of_getElem? (i := 199) (by decide +kernel))) (by decide +kernel)
theorem am_ly10_63 : u_lay RX10 TX10 63 ∈ am_ts := am_ts_of (am_in6 (List.mem_of_getElem? (i := 201) (by decide +kernel))) (by decide +kernel)
theorem am_ly10_64 : u_lay RX10 TX10 64 ∈ am_ts := am_ts_of (am_in6 (List.mem_of_getElem? (i := 203) (by decide +kernel))) (by decide +kernel)
theorem am_ly10_65 : u_lay RX10 TX10 65 ∈ am_ts := am_ts_of (am_in6 (List.mem_of_getElem? (i := 205) (by decide +kernel))) (by decide +kernel)
theorem am_ly10_66 : u_lay RX10 TX10 66 ∈ am_ts := am_ts_of (am_in6 (List.mem_of_getElem? (i := 207) (by decide +kernel))) (by decide +kernel)
theorem am_lay10 : ∀ k, k < 67 → u_lay RX10 TX10 k ∈ am_ts := fun k hk => match k, hk with
  | 0, _ => am_ly10_0
  | 1, _ => am_ly10_1
  | 2, _ => am_ly10_2
  | 3, _ => am_ly10_3
  | 4, _ => am_ly10_4
  | 5, _ => am_ly10_5
  | 6, _ => am_ly10_6
  | 7, _ => am_ly10_7
  | 8, _ => am_ly10_8
  | 9, _ => am_ly10_9
  | 10, _ => am_ly10_10
  | 11, _ => am_ly10_11
  | 12, _ => am_ly10_12
  | 13, _ => am_ly10_13
  | 14, _ => am_ly10_14
  | 15, _ => am_ly10_15
  | 16, _ => am_ly10_16
  | 17, _ => am_ly10_17
  | 18, _ => am_ly10_18
  | 19, _ => am_ly10_19
  | 20, _ => am_ly10_20
  | 21, _ => am_ly10_21
  | 22, _ => am_ly10_22
  | 23, _ => am_ly10_23
  | 24, _ => am_ly10_24
  | 25, _ => am_ly10_25
  | 26, _ => am_ly10_26
  | 27, _ => am_ly10_27
  | 28, _ => am_ly10_28
  | 29, _ => am_ly10_29
  | 30, _ => am_ly10_30
  | 31, _ => am_ly10_31
  | 32, _ => am_ly10_32
  | 33, _ => am_ly10_33
  | 34, _ => am_ly10_34
  | 35, _ => am_ly10_35
  | 36, _ => am_ly10_36
  | 37, _ => am_ly10_37
  | 38, _ => am_ly10_38
  | 39, _ => am_ly10_39
  | 40, _ => am_ly10_40
  | 41, _ => am_ly10_41
  | 42, _ => am_ly10_42
  | 43, _ => am_ly10_43
  | 44, _ => am_ly10_44
  | 45, _ => am_ly10_45
  | 46, _ => am_ly10_46
  | 47, _ => am_ly10_47
  | 48, _ => am_ly10_48
  | 49, _ => am_ly10_49
  | 50, _ => am_ly10_50
  | 51, _ => am_ly10_51
  | 52, _ => am_ly10_52
  | 53, _ => am_ly10_53
  | 54, _ => am_ly10_54
  | 55, _ => am_ly10_55
  | 56, _ => am_ly10_56
  | 57, _ => am_ly10_57
  | 58, _ => am_ly10_58
  | 59, _ => am_ly10_59
  | 60, _ => am_ly10_60
  | 61, _ => am_ly10_61
  | 62, _ => am_ly10_62
  | 63, _ => am_ly10_63
  | 64, _ => am_ly10_64
  | 65, _ => am_ly10_65
  | 66, _ => am_ly10_66
  | j + 67, h => absurd h (by omega)
theorem am_uin : ∀ ci, ci < 11 → ∀ w ∈ u_ws (am_Tf ci).1 (am_Tf ci).2.1 (am_Tf ci).2.2, w ∈ am_ts := by
  intro ci hci w hw
  obtain ⟨k, hk, rfl⟩ := List.mem_map.mp hw
  rw [List.mem_range] at hk
  match ci, hci with
  | 0, _ => exact am_lay0 k hk
  | 1, _ => exact am_lay1 k hk
  | 2, _ => exact am_lay2 k hk
  | 3, _ => exact am_lay3 k hk
  | 4, _ => exact am_lay4 k hk
  | 5, _ => exact am_lay5 k hk
  | 6, _ => exact am_lay6 k hk
  | 7, _ => exact am_lay7 k hk
  | 8, _ => exact am_lay8 k hk
  | 9, _ => exact am_lay9 k hk
  | 10, _ => exact am_lay10 k hk
  | j + 11, h => exact absurd h (by omega)
theorem am_Tf_at : ∀ ci, ci < 11 → vwCl[ci]? = some (am_Tf ci) := by
  intro ci hci
  match ci, hci with
  | 0, _ => rfl
  | 1, _ => rfl
  | 2, _ => rfl
  | 3, _ => rfl
  | 4, _ => rfl
  | 5, _ => rfl
  | 6, _ => rfl
  | 7, _ => rfl
  | 8, _ => rfl
  | 9, _ => rfl
  | 10, _ => rfl
  | j + 11, h => exact absurd h (by omega)
def am_nfo (c : Nat) : Nat := (am_FT.getD c []).length
theorem am_nf_eq : ∀ ci, ci < 11 → (am_Tf ci).2.2 = am_nfo ci := by
  intro ci hci
  match ci, hci with
  | 0, _ => rfl
  | 1, _ => rfl
  | 2, _ => rfl
  | 3, _ => rfl
  | 4, _ => rfl
  | 5, _ => rfl
  | 6, _ => rfl
  | 7, _ => rfl
  | 8, _ => rfl
  | 9, _ => rfl
  | 10, _ => rfl
  | j + 11, h => exact absurd h (by omega)
def am_ty (ci : Nat) : Nat → FieldType := match ci with
  | 0 => tyX0
  | 1 => tyX1
  | 2 => tyX2
  | 3 => tyX3
  | 4 => tyX4
  | 5 => tyX5
  | 6 => tyX6
  | 7 => tyX7
  | 8 => tyX8
  | 9 => tyX9
  | _ => tyX10
theorem am_tyok : ∀ ci, ci < 11 → ∀ k, k < (am_Tf ci).2.2 → parseFieldDescriptor ((am_Tf ci).2.1 k).2.2.1 = some (am_ty ci k) := by
  intro ci hci
  match ci, hci with
  | 0, _ => exact tyX0_ok
  | 1, _ => exact tyX1_ok
  | 2, _ => exact tyX2_ok
  | 3, _ => exact tyX3_ok
  | 4, _ => exact tyX4_ok
  | 5, _ => exact tyX5_ok
  | 6, _ => exact tyX6_ok
  | 7, _ => exact tyX7_ok
  | 8, _ => exact tyX8_ok
  | 9, _ => exact tyX9_ok
  | 10, _ => exact tyX10_ok
  | j + 11, h => exact absurd h (by omega)
theorem am_nmok : ∀ ci, ci < 11 → ∀ a, a < (am_Tf ci).2.2 → ∀ b, b < (am_Tf ci).2.2 → a ≠ b → ((am_Tf ci).2.1 a).2.1 ≠ ((am_Tf ci).2.1 b).2.1 := by
  intro ci hci
  match ci, hci with
  | 0, _ => exact nmX0
  | 1, _ => exact nmX1
  | 2, _ => exact nmX2
  | 3, _ => exact nmX3
  | 4, _ => exact nmX4
  | 5, _ => exact nmX5
  | 6, _ => exact nmX6
  | 7, _ => exact nmX7
  | 8, _ => exact nmX8
  | 9, _ => exact nmX9
  | 10, _ => exact nmX10
  | j + 11, h => exact absurd h (by omega)
theorem am_dcl : ∀ ci, ci < 11 → ∀ k, k < (am_Tf ci).2.2 → ((am_Tf ci).2.1 k).1 = (am_Tf ci).1 := by
  intro ci hci
  match ci, hci with
  | 0, _ => decide +kernel
  | 1, _ => decide +kernel
  | 2, _ => decide +kernel
  | 3, _ => decide +kernel
  | 4, _ => decide +kernel
  | 5, _ => decide +kernel
  | 6, _ => decide +kernel
  | 7, _ => decide +kernel
  | 8, _ => decide +kernel
  | 9, _ => decide +kernel
  | 10, _ => decide +kernel
  | j + 11, h => exact absurd h (by omega)
/-- the kinds of the fields fit their types -/
def am_tkd (t : FieldType) : Nat := match t with
  | .int => 0
  | .long => 1
  | .boolean => 3
  | .object _ => 2
  | .array _ => 2
  | _ => 9
theorem am_ftyok : ∀ ci, ci < 11 → ∀ k, k < (am_Tf ci).2.2 → am_tkd (am_ty ci k) = am_fty ci k := by
  intro ci hci
  match ci, hci with
  | 0, _ => decide +kernel
  | 1, _ => decide +kernel
  | 2, _ => decide +kernel
  | 3, _ => decide +kernel
  | 4, _ => decide +kernel
  | 5, _ => decide +kernel
  | 6, _ => decide +kernel
  | 7, _ => decide +kernel
  | 8, _ => decide +kernel
  | 9, _ => decide +kernel
  | 10, _ => decide +kernel
  | j + 11, h => exact absurd h (by omega)
theorem am_fk : ∀ ci, ci < 11 → ∀ k, k < (am_Tf ci).2.2 → am_fty ci k = 0 ∨ am_fty ci k = 1 ∨ am_fty ci k = 2 ∨ am_fty ci k = 3 := by
  intro ci hci
  match ci, hci with
  | 0, _ => decide +kernel
  | 1, _ => decide +kernel
  | 2, _ => decide +kernel
  | 3, _ => decide +kernel
  | 4, _ => decide +kernel
  | 5, _ => decide +kernel
  | 6, _ => decide +kernel
  | 7, _ => decide +kernel
  | 8, _ => decide +kernel
  | 9, _ => decide +kernel
  | 10, _ => decide +kernel
  | j + 11, h => exact absurd h (by omega)
def am_ilen (i : Instr) : Nat := match i with
  | .bipush _ => 2
  | .sipush _ => 3
  | .ldc _ => 2
  | .ldc_w _ => 3
  | .ldc2_w _ => 3
  | .iload _ => 2
  | .lload _ => 2
  | .aload _ => 2
  | .istore _ => 2
  | .lstore _ => 2
  | .astore _ => 2
  | .iinc _ _ => 3
  | .ifCond _ _ => 3
  | .if_icmp _ _ => 3
  | .goto _ => 3
  | .getfield _ => 3
  | .putfield _ => 3
  | .getstatic _ => 3
  | .new _ => 3
  | .newarray _ => 2
  | .invokevirtual _ => 3
  | .invokestatic _ => 3
  | .invokespecial _ => 3
  | _ => 1
def am_lok (q : Instr × Nat) : Bool := match q.1 with
  | .tableswitch _ lo hi offs => decide ((offs.size : Int) = hi - lo + 1)
  | .lookupswitch _ _ => true
  | .athrow => true
  | .checkcast _ => true
  | .instanceof _ => true
  | .invokeinterface _ _ => true
  | .ifnull _ => true
  | .ifnonnull _ => true
  | .if_acmp _ _ => true
  | .iconst z => Nat.beq q.2 1 && decide (-1 ≤ z ∧ z ≤ 5)
  | .bipush z => Nat.beq q.2 2 && decide (-128 ≤ z ∧ z ≤ 127)
  | .sipush z => Nat.beq q.2 3 && decide (-32768 ≤ z ∧ z ≤ 32767)
  | i => Nat.beq q.2 (am_ilen i)
/-- who writes a final field is its class's constructor -/
def am_pfok (e : am_MT) (q : Nat × Instr × Nat) : Bool := am_lok q.2 && match q.2.1 with
  | .putfield idx => match am_find ((am_PP.getD e.2.2.2.2.1 []).getD (idx / 16) []) idx with
    | some (1, ci, k, _, _) => !((am_Tf ci).2.1 k).2.2.2 || (decide (e.1.name = "<init>") && decide (am_cn e.2.2.2.2.1 = (am_Tf ci).1))
    | _ => true
  | _ => true
theorem am_pf0 : ∀ e ∈ am_T0, ∀ ch ∈ e.2.2.2.2.2, ∀ q ∈ ch, am_pfok e q = true := by decide +kernel
theorem am_pf1 : ∀ e ∈ am_T1, ∀ ch ∈ e.2.2.2.2.2, ∀ q ∈ ch, am_pfok e q = true := by decide +kernel
theorem am_pf2 : ∀ e ∈ am_T2, ∀ ch ∈ e.2.2.2.2.2, ∀ q ∈ ch, am_pfok e q = true := by decide +kernel
theorem am_pf3 : ∀ e ∈ am_T3, ∀ ch ∈ e.2.2.2.2.2, ∀ q ∈ ch, am_pfok e q = true := by decide +kernel
theorem am_pf4 : ∀ e ∈ am_T4, ∀ ch ∈ e.2.2.2.2.2, ∀ q ∈ ch, am_pfok e q = true := by decide +kernel
theorem am_pf5 : ∀ e ∈ am_T5, ∀ ch ∈ e.2.2.2.2.2, ∀ q ∈ ch, am_pfok e q = true := by decide +kernel
theorem am_pf6 : ∀ e ∈ am_T6, ∀ ch ∈ e.2.2.2.2.2, ∀ q ∈ ch, am_pfok e q = true := by decide +kernel
theorem am_pf7 : ∀ e ∈ am_T7, ∀ ch ∈ e.2.2.2.2.2, ∀ q ∈ ch, am_pfok e q = true := by decide +kernel
theorem am_pf8 : ∀ e ∈ am_T8, ∀ ch ∈ e.2.2.2.2.2, ∀ q ∈ ch, am_pfok e q = true := by decide +kernel
theorem am_pf9 : ∀ e ∈ am_T9, ∀ ch ∈ e.2.2.2.2.2, ∀ q ∈ ch, am_pfok e q = true := by decide +kernel
theorem am_pf10 : ∀ e ∈ am_T10, ∀ ch ∈ e.2.2.2.2.2, ∀ q ∈ ch, am_pfok e q = true := by decide +kernel
theorem am_pf11 : ∀ e ∈ am_T11, ∀ ch ∈ e.2.2.2.2.2, ∀ q ∈ ch, am_pfok e q = true := by decide +kernel
theorem am_pf12 : ∀ e ∈ am_T12, ∀ ch ∈ e.2.2.2.2.2, ∀ q ∈ ch, am_pfok e q = true := by decide +kernel
theorem am_pf13 : ∀ e ∈ am_T13, ∀ ch ∈ e.2.2.2.2.2, ∀ q ∈ ch, am_pfok e q = true := by decide +kernel
theorem am_pf14 : ∀ e ∈ am_T14, ∀ ch ∈ e.2.2.2.2.2, ∀ q ∈ ch, am_pfok e q = true := by decide +kernel
theorem am_pf15 : ∀ e ∈ am_T15, ∀ ch ∈ e.2.2.2.2.2, ∀ q ∈ ch, am_pfok e q = true := by decide +kernel
theorem am_pf16 : ∀ e ∈ am_T16, ∀ ch ∈ e.2.2.2.2.2, ∀ q ∈ ch, am_pfok e q = true := by decide +kernel
theorem am_pf17 : ∀ e ∈ am_T17, ∀ ch ∈ e.2.2.2.2.2, ∀ q ∈ ch, am_pfok e q = true := by decide +kernel
theorem am_pf : ∀ T ∈ am_TT, ∀ e ∈ T, ∀ ch ∈ e.2.2.2.2.2, ∀ q ∈ ch, am_pfok e q = true := List.forall_mem_cons.mpr ⟨am_pf0, List.forall_mem_cons.mpr ⟨am_pf1, List.forall_mem_cons.mpr ⟨am_pf2, List.forall_mem_cons.mpr ⟨am_pf3, List.forall_mem_cons.mpr ⟨am_pf4, List.forall_mem_cons.mpr ⟨am_pf5, List.forall_mem_cons.mpr ⟨am_pf6, List.forall_mem_cons.mpr ⟨am_pf7, List.forall_mem_cons.mpr ⟨am_pf8, List.forall_mem_cons.mpr ⟨am_pf9, List.forall_mem_cons.mpr ⟨am_pf10, List.forall_mem_cons.mpr ⟨am_pf11, List.forall_mem_cons.mpr ⟨am_pf12, List.forall_mem_cons.mpr ⟨am_pf13, List.forall_mem_cons.mpr ⟨am_pf14, List.forall_mem_cons.mpr ⟨am_pf15, List.forall_mem_cons.mpr ⟨am_pf16, List.forall_mem_cons.mpr ⟨am_pf17, fun _ h => absurd h List.not_mem_nil⟩⟩⟩⟩⟩⟩⟩⟩⟩⟩⟩⟩⟩⟩⟩⟩⟩⟩
theorem am_M_mem (m : Nat) : (∃ T ∈ am_TT, am_M m ∈ T) ∨ am_M m = am_none := by
  unfold am_M
  rcases am_getD_mem (l := am_TT.getD (m / 16) []) (i := m % 16) (d := am_none) with h | h
  · rcases am_getD_mem (l := am_TT) (i := m / 16) (d := []) with h2 | h2
    · exact Or.inl ⟨_, h2, h⟩
    · rw [h2] at h
      exact absurd h List.not_mem_nil
  · exact Or.inr h
theorem am_pf_at {m pc : Nat} {i : Instr} {n : Nat} (h : am_code m pc = some (i, n)) : am_pfok (am_M m) (pc, i, n) = true := by
  unfold am_code at h
  rcases am_M_mem m with ⟨T, hT, hm⟩ | hm
  · have key := am_pf T hT (am_M m) hm
    generalize am_M m = e at h key ⊢
    have hq := am_find_mem h
    rcases am_getD_mem (l := e.2.2.2.2.2) (i := pc / 32) (d := []) with h1 | h1
    · exact key _ h1 _ hq
    · rw [h1] at hq
      exact absurd hq List.not_mem_nil
  · rw [hm] at h
    cases h
