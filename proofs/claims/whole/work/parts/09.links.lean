theorem bt1 {w : Cond} (h : w ∈ tables_1_1) : w ∈ tables_1 := List.mem_append_left _ h
theorem bg1 {w : Cond} (i : Nat) (h : tables_1_1[i]? = some w) (g : goodWord w = true) : w ∈ BIG := big_t (bt1 (List.mem_of_getElem? h)) g
theorem bt2 {w : Cond} (h : w ∈ tables_1_2) : w ∈ tables_1 := List.mem_append_right _ (List.mem_append_left _ h)
theorem bg2 {w : Cond} (i : Nat) (h : tables_1_2[i]? = some w) (g : goodWord w = true) : w ∈ BIG := big_t (bt2 (List.mem_of_getElem? h)) g
theorem bt3 {w : Cond} (h : w ∈ tables_1_3) : w ∈ tables_1 := List.mem_append_right _ (List.mem_append_right _ (List.mem_append_left _ h))
theorem bg3 {w : Cond} (i : Nat) (h : tables_1_3[i]? = some w) (g : goodWord w = true) : w ∈ BIG := big_t (bt3 (List.mem_of_getElem? h)) g
theorem bt4 {w : Cond} (h : w ∈ tables_1_4) : w ∈ tables_1 := List.mem_append_right _ (List.mem_append_right _ (List.mem_append_right _ (List.mem_append_left _ h)))
theorem bg4 {w : Cond} (i : Nat) (h : tables_1_4[i]? = some w) (g : goodWord w = true) : w ∈ BIG := big_t (bt4 (List.mem_of_getElem? h)) g
theorem bt5 {w : Cond} (h : w ∈ tables_1_5) : w ∈ tables_1 := List.mem_append_right _ (List.mem_append_right _ (List.mem_append_right _ (List.mem_append_right _ (List.mem_append_left _ h))))
theorem bg5 {w : Cond} (i : Nat) (h : tables_1_5[i]? = some w) (g : goodWord w = true) : w ∈ BIG := big_t (bt5 (List.mem_of_getElem? h)) g
theorem bt6 {w : Cond} (h : w ∈ tables_1_6) : w ∈ tables_1 := List.mem_append_right _ (List.mem_append_right _ (List.mem_append_right _ (List.mem_append_right _ (List.mem_append_right _ (List.mem_append_left _ h)))))
theorem bg6 {w : Cond} (i : Nat) (h : tables_1_6[i]? = some w) (g : goodWord w = true) : w ∈ BIG := big_t (bt6 (List.mem_of_getElem? h)) g
theorem bt7 {w : Cond} (h : w ∈ tables_1_7) : w ∈ tables_1 := List.mem_append_right _ (List.mem_append_right _ (List.mem_append_right _ (List.mem_append_right _ (List.mem_append_right _ (List.mem_append_right _ (h))))))
theorem bg7 {w : Cond} (i : Nat) (h : tables_1_7[i]? = some w) (g : goodWord w = true) : w ∈ BIG := big_t (bt7 (List.mem_of_getElem? h)) g
theorem bgp {q : MethodName × Nat} (h : q ∈ lw_privs) (g : goodWord (Cond.selects q.1.cls q.1 q.1) = true) : Cond.selects q.1.cls q.1 q.1 ∈ BIG := big_of (List.mem_append_left _ (List.mem_map.mpr ⟨q, h, rfl⟩)) g
theorem ly0_0 : u_lay RX0 TX0 0 ∈ BIG := bg1 98 (by decide +kernel) rfl
theorem ly0_1 : u_lay RX0 TX0 1 ∈ BIG := bg1 100 (by decide +kernel) rfl
theorem ly0_2 : u_lay RX0 TX0 2 ∈ BIG := bg1 102 (by decide +kernel) rfl
theorem ly0 (w : Cond) (h : w ∈ u_ws RX0 TX0 3) : w ∈ BIG := by
  obtain ⟨k, hk, rfl⟩ := List.mem_map.mp h
  have hk := List.mem_range.mp hk
  match k, hk with
  | 0, _ => exact ly0_0
  | 1, _ => exact ly0_1
  | 2, _ => exact ly0_2
  | k + 3, h => exact absurd h (by omega)
theorem ly1_0 : u_lay RX1 TX1 0 ∈ BIG := bg1 124 (by decide +kernel) rfl
theorem ly1_1 : u_lay RX1 TX1 1 ∈ BIG := bg1 126 (by decide +kernel) rfl
theorem ly1_2 : u_lay RX1 TX1 2 ∈ BIG := bg1 128 (by decide +kernel) rfl
theorem ly1_3 : u_lay RX1 TX1 3 ∈ BIG := bg1 130 (by decide +kernel) rfl
theorem ly1_4 : u_lay RX1 TX1 4 ∈ BIG := bg1 132 (by decide +kernel) rfl
theorem ly1_5 : u_lay RX1 TX1 5 ∈ BIG := bg1 134 (by decide +kernel) rfl
theorem ly1_6 : u_lay RX1 TX1 6 ∈ BIG := bg1 136 (by decide +kernel) rfl
theorem ly1_7 : u_lay RX1 TX1 7 ∈ BIG := bg1 138 (by decide +kernel) rfl
theorem ly1_8 : u_lay RX1 TX1 8 ∈ BIG := bg1 140 (by decide +kernel) rfl
theorem ly1_9 : u_lay RX1 TX1 9 ∈ BIG := bg1 142 (by decide +kernel) rfl
theorem ly1_10 : u_lay RX1 TX1 10 ∈ BIG := bg1 144 (by decide +kernel) rfl
theorem ly1_11 : u_lay RX1 TX1 11 ∈ BIG := bg1 146 (by decide +kernel) rfl
theorem ly1_12 : u_lay RX1 TX1 12 ∈ BIG := bg1 148 (by decide +kernel) rfl
theorem ly1_13 : u_lay RX1 TX1 13 ∈ BIG := bg1 150 (by decide +kernel) rfl
theorem ly1 (w : Cond) (h : w ∈ u_ws RX1 TX1 14) : w ∈ BIG := by
  obtain ⟨k, hk, rfl⟩ := List.mem_map.mp h
  have hk := List.mem_range.mp hk
  match k, hk with
  | 0, _ => exact ly1_0
  | 1, _ => exact ly1_1
  | 2, _ => exact ly1_2
  | 3, _ => exact ly1_3
  | 4, _ => exact ly1_4
  | 5, _ => exact ly1_5
  | 6, _ => exact ly1_6
  | 7, _ => exact ly1_7
  | 8, _ => exact ly1_8
  | 9, _ => exact ly1_9
  | 10, _ => exact ly1_10
  | 11, _ => exact ly1_11
  | 12, _ => exact ly1_12
  | 13, _ => exact ly1_13
  | k + 14, h => exact absurd h (by omega)
theorem ly2_0 : u_lay RX2 TX2 0 ∈ BIG := bg2 9 (by decide +kernel) rfl
theorem ly2_1 : u_lay RX2 TX2 1 ∈ BIG := bg2 11 (by decide +kernel) rfl
theorem ly2_2 : u_lay RX2 TX2 2 ∈ BIG := bg2 13 (by decide +kernel) rfl
theorem ly2_3 : u_lay RX2 TX2 3 ∈ BIG := bg2 15 (by decide +kernel) rfl
theorem ly2_4 : u_lay RX2 TX2 4 ∈ BIG := bg2 17 (by decide +kernel) rfl
theorem ly2_5 : u_lay RX2 TX2 5 ∈ BIG := bg2 19 (by decide +kernel) rfl
theorem ly2_6 : u_lay RX2 TX2 6 ∈ BIG := bg2 21 (by decide +kernel) rfl
theorem ly2_7 : u_lay RX2 TX2 7 ∈ BIG := bg2 23 (by decide +kernel) rfl
theorem ly2 (w : Cond) (h : w ∈ u_ws RX2 TX2 8) : w ∈ BIG := by
  obtain ⟨k, hk, rfl⟩ := List.mem_map.mp h
  have hk := List.mem_range.mp hk
  match k, hk with
  | 0, _ => exact ly2_0
  | 1, _ => exact ly2_1
  | 2, _ => exact ly2_2
  | 3, _ => exact ly2_3
  | 4, _ => exact ly2_4
  | 5, _ => exact ly2_5
  | 6, _ => exact ly2_6
  | 7, _ => exact ly2_7
  | k + 8, h => exact absurd h (by omega)
theorem ly3_0 : u_lay RX3 TX3 0 ∈ BIG := bg1 213 (by decide +kernel) rfl
theorem ly3_1 : u_lay RX3 TX3 1 ∈ BIG := bg1 215 (by decide +kernel) rfl
theorem ly3_2 : u_lay RX3 TX3 2 ∈ BIG := bg1 217 (by decide +kernel) rfl
theorem ly3_3 : u_lay RX3 TX3 3 ∈ BIG := bg1 219 (by decide +kernel) rfl
theorem ly3_4 : u_lay RX3 TX3 4 ∈ BIG := bg1 221 (by decide +kernel) rfl
theorem ly3_5 : u_lay RX3 TX3 5 ∈ BIG := bg1 223 (by decide +kernel) rfl
theorem ly3_6 : u_lay RX3 TX3 6 ∈ BIG := bg1 225 (by decide +kernel) rfl
theorem ly3_7 : u_lay RX3 TX3 7 ∈ BIG := bg1 227 (by decide +kernel) rfl
theorem ly3_8 : u_lay RX3 TX3 8 ∈ BIG := bg1 229 (by decide +kernel) rfl
theorem ly3_9 : u_lay RX3 TX3 9 ∈ BIG := bg1 231 (by decide +kernel) rfl
theorem ly3_10 : u_lay RX3 TX3 10 ∈ BIG := bg1 233 (by decide +kernel) rfl
theorem ly3_11 : u_lay RX3 TX3 11 ∈ BIG := bg1 235 (by decide +kernel) rfl
theorem ly3_12 : u_lay RX3 TX3 12 ∈ BIG := bg1 237 (by decide +kernel) rfl
theorem ly3 (w : Cond) (h : w ∈ u_ws RX3 TX3 13) : w ∈ BIG := by
  obtain ⟨k, hk, rfl⟩ := List.mem_map.mp h
  have hk := List.mem_range.mp hk
  match k, hk with
  | 0, _ => exact ly3_0
  | 1, _ => exact ly3_1
  | 2, _ => exact ly3_2
  | 3, _ => exact ly3_3
  | 4, _ => exact ly3_4
  | 5, _ => exact ly3_5
  | 6, _ => exact ly3_6
  | 7, _ => exact ly3_7
  | 8, _ => exact ly3_8
  | 9, _ => exact ly3_9
  | 10, _ => exact ly3_10
  | 11, _ => exact ly3_11
  | 12, _ => exact ly3_12
  | k + 13, h => exact absurd h (by omega)
theorem ly4_0 : u_lay RX4 TX4 0 ∈ BIG := bg1 49 (by decide +kernel) rfl
theorem ly4_1 : u_lay RX4 TX4 1 ∈ BIG := bg1 51 (by decide +kernel) rfl
theorem ly4_2 : u_lay RX4 TX4 2 ∈ BIG := bg1 53 (by decide +kernel) rfl
theorem ly4_3 : u_lay RX4 TX4 3 ∈ BIG := bg1 55 (by decide +kernel) rfl
theorem ly4_4 : u_lay RX4 TX4 4 ∈ BIG := bg1 57 (by decide +kernel) rfl
theorem ly4_5 : u_lay RX4 TX4 5 ∈ BIG := bg1 59 (by decide +kernel) rfl
theorem ly4_6 : u_lay RX4 TX4 6 ∈ BIG := bg1 61 (by decide +kernel) rfl
theorem ly4_7 : u_lay RX4 TX4 7 ∈ BIG := bg1 63 (by decide +kernel) rfl
theorem ly4_8 : u_lay RX4 TX4 8 ∈ BIG := bg1 65 (by decide +kernel) rfl
theorem ly4_9 : u_lay RX4 TX4 9 ∈ BIG := bg1 67 (by decide +kernel) rfl
theorem ly4_10 : u_lay RX4 TX4 10 ∈ BIG := bg1 69 (by decide +kernel) rfl
theorem ly4_11 : u_lay RX4 TX4 11 ∈ BIG := bg1 71 (by decide +kernel) rfl
theorem ly4_12 : u_lay RX4 TX4 12 ∈ BIG := bg1 73 (by decide +kernel) rfl
theorem ly4 (w : Cond) (h : w ∈ u_ws RX4 TX4 13) : w ∈ BIG := by
  obtain ⟨k, hk, rfl⟩ := List.mem_map.mp h
  have hk := List.mem_range.mp hk
  match k, hk with
  | 0, _ => exact ly4_0
  | 1, _ => exact ly4_1
  | 2, _ => exact ly4_2
  | 3, _ => exact ly4_3
  | 4, _ => exact ly4_4
  | 5, _ => exact ly4_5
  | 6, _ => exact ly4_6
  | 7, _ => exact ly4_7
  | 8, _ => exact ly4_8
  | 9, _ => exact ly4_9
  | 10, _ => exact ly4_10
  | 11, _ => exact ly4_11
  | 12, _ => exact ly4_12
  | k + 13, h => exact absurd h (by omega)
theorem ly5_0 : u_lay RX5 TX5 0 ∈ BIG := bg2 42 (by decide +kernel) rfl
theorem ly5_1 : u_lay RX5 TX5 1 ∈ BIG := bg2 44 (by decide +kernel) rfl
theorem ly5 (w : Cond) (h : w ∈ u_ws RX5 TX5 2) : w ∈ BIG := by
  obtain ⟨k, hk, rfl⟩ := List.mem_map.mp h
  have hk := List.mem_range.mp hk
  match k, hk with
  | 0, _ => exact ly5_0
  | 1, _ => exact ly5_1
  | k + 2, h => exact absurd h (by omega)
theorem ly6_0 : u_lay RX6 TX6 0 ∈ BIG := bg2 55 (by decide +kernel) rfl
theorem ly6_1 : u_lay RX6 TX6 1 ∈ BIG := bg2 57 (by decide +kernel) rfl
theorem ly6_2 : u_lay RX6 TX6 2 ∈ BIG := bg2 59 (by decide +kernel) rfl
theorem ly6_3 : u_lay RX6 TX6 3 ∈ BIG := bg2 61 (by decide +kernel) rfl
theorem ly6_4 : u_lay RX6 TX6 4 ∈ BIG := bg2 63 (by decide +kernel) rfl
theorem ly6 (w : Cond) (h : w ∈ u_ws RX6 TX6 5) : w ∈ BIG := by
  obtain ⟨k, hk, rfl⟩ := List.mem_map.mp h
  have hk := List.mem_range.mp hk
  match k, hk with
  | 0, _ => exact ly6_0
  | 1, _ => exact ly6_1
  | 2, _ => exact ly6_2
  | 3, _ => exact ly6_3
  | 4, _ => exact ly6_4
  | k + 5, h => exact absurd h (by omega)
theorem ly7_0 : u_lay RX7 TX7 0 ∈ BIG := bg2 80 (by decide +kernel) rfl
theorem ly7_1 : u_lay RX7 TX7 1 ∈ BIG := bg2 82 (by decide +kernel) rfl
theorem ly7_2 : u_lay RX7 TX7 2 ∈ BIG := bg2 84 (by decide +kernel) rfl
theorem ly7_3 : u_lay RX7 TX7 3 ∈ BIG := bg2 86 (by decide +kernel) rfl
theorem ly7_4 : u_lay RX7 TX7 4 ∈ BIG := bg2 88 (by decide +kernel) rfl
theorem ly7_5 : u_lay RX7 TX7 5 ∈ BIG := bg2 90 (by decide +kernel) rfl
theorem ly7_6 : u_lay RX7 TX7 6 ∈ BIG := bg2 92 (by decide +kernel) rfl
theorem ly7_7 : u_lay RX7 TX7 7 ∈ BIG := bg2 94 (by decide +kernel) rfl
theorem ly7_8 : u_lay RX7 TX7 8 ∈ BIG := bg2 96 (by decide +kernel) rfl
theorem ly7_9 : u_lay RX7 TX7 9 ∈ BIG := bg2 98 (by decide +kernel) rfl
theorem ly7_10 : u_lay RX7 TX7 10 ∈ BIG := bg2 100 (by decide +kernel) rfl
theorem ly7_11 : u_lay RX7 TX7 11 ∈ BIG := bg2 102 (by decide +kernel) rfl
theorem ly7 (w : Cond) (h : w ∈ u_ws RX7 TX7 12) : w ∈ BIG := by
  obtain ⟨k, hk, rfl⟩ := List.mem_map.mp h
  have hk := List.mem_range.mp hk
  match k, hk with
  | 0, _ => exact ly7_0
  | 1, _ => exact ly7_1
  | 2, _ => exact ly7_2
  | 3, _ => exact ly7_3
  | 4, _ => exact ly7_4
  | 5, _ => exact ly7_5
  | 6, _ => exact ly7_6
  | 7, _ => exact ly7_7
  | 8, _ => exact ly7_8
  | 9, _ => exact ly7_9
  | 10, _ => exact ly7_10
  | 11, _ => exact ly7_11
  | k + 12, h => exact absurd h (by omega)
theorem ly8_0 : u_lay RX8 TX8 0 ∈ BIG := bg5 120 (by decide +kernel) rfl
theorem ly8_1 : u_lay RX8 TX8 1 ∈ BIG := bg5 122 (by decide +kernel) rfl
theorem ly8_2 : u_lay RX8 TX8 2 ∈ BIG := bg5 124 (by decide +kernel) rfl
theorem ly8_3 : u_lay RX8 TX8 3 ∈ BIG := bg5 126 (by decide +kernel) rfl
theorem ly8_4 : u_lay RX8 TX8 4 ∈ BIG := bg5 128 (by decide +kernel) rfl
theorem ly8_5 : u_lay RX8 TX8 5 ∈ BIG := bg5 130 (by decide +kernel) rfl
theorem ly8_6 : u_lay RX8 TX8 6 ∈ BIG := bg5 132 (by decide +kernel) rfl
theorem ly8_7 : u_lay RX8 TX8 7 ∈ BIG := bg5 134 (by decide +kernel) rfl
theorem ly8_8 : u_lay RX8 TX8 8 ∈ BIG := bg5 136 (by decide +kernel) rfl
theorem ly8_9 : u_lay RX8 TX8 9 ∈ BIG := bg5 138 (by decide +kernel) rfl
theorem ly8_10 : u_lay RX8 TX8 10 ∈ BIG := bg5 140 (by decide +kernel) rfl
theorem ly8_11 : u_lay RX8 TX8 11 ∈ BIG := bg5 142 (by decide +kernel) rfl
theorem ly8_12 : u_lay RX8 TX8 12 ∈ BIG := bg5 144 (by decide +kernel) rfl
theorem ly8_13 : u_lay RX8 TX8 13 ∈ BIG := bg5 146 (by decide +kernel) rfl
theorem ly8_14 : u_lay RX8 TX8 14 ∈ BIG := bg5 148 (by decide +kernel) rfl
theorem ly8_15 : u_lay RX8 TX8 15 ∈ BIG := bg5 150 (by decide +kernel) rfl
theorem ly8_16 : u_lay RX8 TX8 16 ∈ BIG := bg5 152 (by decide +kernel) rfl
theorem ly8_17 : u_lay RX8 TX8 17 ∈ BIG := bg5 154 (by decide +kernel) rfl
theorem ly8_18 : u_lay RX8 TX8 18 ∈ BIG := bg5 156 (by decide +kernel) rfl
theorem ly8_19 : u_lay RX8 TX8 19 ∈ BIG := bg5 158 (by decide +kernel) rfl
theorem ly8_20 : u_lay RX8 TX8 20 ∈ BIG := bg5 160 (by decide +kernel) rfl
theorem ly8_21 : u_lay RX8 TX8 21 ∈ BIG := bg5 162 (by decide +kernel) rfl
theorem ly8_22 : u_lay RX8 TX8 22 ∈ BIG := bg5 164 (by decide +kernel) rfl
theorem ly8_23 : u_lay RX8 TX8 23 ∈ BIG := bg5 166 (by decide +kernel) rfl
theorem ly8_24 : u_lay RX8 TX8 24 ∈ BIG := bg5 168 (by decide +kernel) rfl
theorem ly8_25 : u_lay RX8 TX8 25 ∈ BIG := bg5 170 (by decide +kernel) rfl
theorem ly8_26 : u_lay RX8 TX8 26 ∈ BIG := bg5 172 (by decide +kernel) rfl
theorem ly8_27 : u_lay RX8 TX8 27 ∈ BIG := bg5 174 (by decide +kernel) rfl
theorem ly8_28 : u_lay RX8 TX8 28 ∈ BIG := bg5 176 (by decide +kernel) rfl
theorem ly8_29 : u_lay RX8 TX8 29 ∈ BIG := bg5 178 (by decide +kernel) rfl
theorem ly8_30 : u_lay RX8 TX8 30 ∈ BIG := bg5 180 (by decide +kernel) rfl
theorem ly8_31 : u_lay RX8 TX8 31 ∈ BIG := bg5 182 (by decide +kernel) rfl
theorem ly8_32 : u_lay RX8 TX8 32 ∈ BIG := bg5 184 (by decide +kernel) rfl
theorem ly8_33 : u_lay RX8 TX8 33 ∈ BIG := bg5 186 (by decide +kernel) rfl
theorem ly8_34 : u_lay RX8 TX8 34 ∈ BIG := bg5 188 (by decide +kernel) rfl
theorem ly8_35 : u_lay RX8 TX8 35 ∈ BIG := bg5 190 (by decide +kernel) rfl
theorem ly8_36 : u_lay RX8 TX8 36 ∈ BIG := bg5 192 (by decide +kernel) rfl
theorem ly8_37 : u_lay RX8 TX8 37 ∈ BIG := bg5 194 (by decide +kernel) rfl
theorem ly8_38 : u_lay RX8 TX8 38 ∈ BIG := bg5 196 (by decide +kernel) rfl
theorem ly8_39 : u_lay RX8 TX8 39 ∈ BIG := bg5 198 (by decide +kernel) rfl
theorem ly8_40 : u_lay RX8 TX8 40 ∈ BIG := bg5 200 (by decide +kernel) rfl
theorem ly8_41 : u_lay RX8 TX8 41 ∈ BIG := bg5 202 (by decide +kernel) rfl
theorem ly8_42 : u_lay RX8 TX8 42 ∈ BIG := bg5 204 (by decide +kernel) rfl
theorem ly8_43 : u_lay RX8 TX8 43 ∈ BIG := bg5 206 (by decide +kernel) rfl
theorem ly8_44 : u_lay RX8 TX8 44 ∈ BIG := bg5 208 (by decide +kernel) rfl
theorem ly8_45 : u_lay RX8 TX8 45 ∈ BIG := bg5 210 (by decide +kernel) rfl
theorem ly8_46 : u_lay RX8 TX8 46 ∈ BIG := bg5 212 (by decide +kernel) rfl
theorem ly8_47 : u_lay RX8 TX8 47 ∈ BIG := bg5 214 (by decide +kernel) rfl
theorem ly8_48 : u_lay RX8 TX8 48 ∈ BIG := bg5 216 (by decide +kernel) rfl
theorem ly8_49 : u_lay RX8 TX8 49 ∈ BIG := bg5 218 (by decide +kernel) rfl
theorem ly8_50 : u_lay RX8 TX8 50 ∈ BIG := bg5 220 (by decide +kernel) rfl
theorem ly8_51 : u_lay RX8 TX8 51 ∈ BIG := bg5 222 (by decide +kernel) rfl
theorem ly8 (w : Cond) (h : w ∈ u_ws RX8 TX8 52) : w ∈ BIG := by
  obtain ⟨k, hk, rfl⟩ := List.mem_map.mp h
  have hk := List.mem_range.mp hk
  match k, hk with
  | 0, _ => exact ly8_0
  | 1, _ => exact ly8_1
  | 2, _ => exact ly8_2
  | 3, _ => exact ly8_3
  | 4, _ => exact ly8_4
  | 5, _ => exact ly8_5
  | 6, _ => exact ly8_6
  | 7, _ => exact ly8_7
  | 8, _ => exact ly8_8
  | 9, _ => exact ly8_9
  | 10, _ => exact ly8_10
  | 11, _ => exact ly8_11
  | 12, _ => exact ly8_12
  | 13, _ => exact ly8_13
  | 14, _ => exact ly8_14
  | 15, _ => exact ly8_15
  | 16, _ => exact ly8_16
  | 17, _ => exact ly8_17
  | 18, _ => exact ly8_18
  | 19, _ => exact ly8_19
  | 20, _ => exact ly8_20
  | 21, _ => exact ly8_21
  | 22, _ => exact ly8_22
  | 23, _ => exact ly8_23
  | 24, _ => exact ly8_24
  | 25, _ => exact ly8_25
  | 26, _ => exact ly8_26
  | 27, _ => exact ly8_27
  | 28, _ => exact ly8_28
  | 29, _ => exact ly8_29
  | 30, _ => exact ly8_30
  | 31, _ => exact ly8_31
  | 32, _ => exact ly8_32
  | 33, _ => exact ly8_33
  | 34, _ => exact ly8_34
  | 35, _ => exact ly8_35
  | 36, _ => exact ly8_36
  | 37, _ => exact ly8_37
  | 38, _ => exact ly8_38
  | 39, _ => exact ly8_39
  | 40, _ => exact ly8_40
  | 41, _ => exact ly8_41
  | 42, _ => exact ly8_42
  | 43, _ => exact ly8_43
  | 44, _ => exact ly8_44
  | 45, _ => exact ly8_45
  | 46, _ => exact ly8_46
  | 47, _ => exact ly8_47
  | 48, _ => exact ly8_48
  | 49, _ => exact ly8_49
  | 50, _ => exact ly8_50
  | 51, _ => exact ly8_51
  | k + 52, h => exact absurd h (by omega)
theorem fw7_11 : Cond.fieldLink RX7 11 (TX7 0).1 (TX7 0).2.1 (TX7 0).2.2.1 ∈ BIG := bg2 68 (by decide +kernel) rfl
theorem f7_11 : FLk RX7 11 7 0 := ⟨RX7, TX7, 12, rfl, by decide, rfl, ly7, fw7_11⟩
/-- RoundedSums.tape -/
theorem g7_11 {E : Ev} {cc : ByteArray} {nL : Nat} {ret : Option FieldType} {R : Room} {cl sl : Nat} {Z : Zt} {pc : Nat} {L st : List Vv} {M : Mm} {N : Nn} {a b : Nat} (hd : decode cc pc = .ok (.getfield 11, 3)) (k : Go E RX7 cc nL ret R cl sl Z (pc + 3) L (vr (4, 0, 0) :: st) M N) : Go E RX7 cc nL ret R cl sl Z (pc) L (vr (3, a, b) :: st) M N := go_get2 hd f7_11 rfl rfl rfl rfl rfl k
theorem fw7_15 : Cond.fieldLink RX7 15 (TX7 1).1 (TX7 1).2.1 (TX7 1).2.2.1 ∈ BIG := bg2 69 (by decide +kernel) rfl
theorem f7_15 : FLk RX7 15 7 1 := ⟨RX7, TX7, 12, rfl, by decide, rfl, ly7, fw7_15⟩
/-- RoundedSums.thePoint -/
theorem g7_15 {E : Ev} {cc : ByteArray} {nL : Nat} {ret : Option FieldType} {R : Room} {cl sl : Nat} {Z : Zt} {pc : Nat} {L st : List Vv} {M : Mm} {N : Nn} {a b : Nat} (hd : decode cc pc = .ok (.getfield 15, 3)) (k : Go E RX7 cc nL ret R cl sl Z (pc + 3) L (vr (5, 0, 0) :: st) M N) : Go E RX7 cc nL ret R cl sl Z (pc) L (vr (3, a, b) :: st) M N := go_get2 hd f7_15 rfl rfl rfl rfl rfl k
theorem fw7_22 : Cond.fieldLink RX7 22 (TX7 2).1 (TX7 2).2.1 (TX7 2).2.2.1 ∈ BIG := bg2 70 (by decide +kernel) rfl
theorem f7_22 : FLk RX7 22 7 2 := ⟨RX7, TX7, 12, rfl, by decide, rfl, ly7, fw7_22⟩
/-- RoundedSums.reader -/
theorem g7_22 {E : Ev} {cc : ByteArray} {nL : Nat} {ret : Option FieldType} {R : Room} {cl sl : Nat} {Z : Zt} {pc : Nat} {L st : List Vv} {M : Mm} {N : Nn} {a b : Nat} (hd : decode cc pc = .ok (.getfield 22, 3)) (k : Go E RX7 cc nL ret R cl sl Z (pc + 3) L (vr (6, 0, 0) :: st) M N) : Go E RX7 cc nL ret R cl sl Z (pc) L (vr (3, a, b) :: st) M N := go_get2 hd f7_22 rfl rfl rfl rfl rfl k
theorem fw7_29 : Cond.fieldLink RX7 29 (TX7 3).1 (TX7 3).2.1 (TX7 3).2.2.1 ∈ BIG := bg2 71 (by decide +kernel) rfl
theorem f7_29 : FLk RX7 29 7 3 := ⟨RX7, TX7, 12, rfl, by decide, rfl, ly7, fw7_29⟩
/-- RoundedSums.forms -/
theorem g7_29 {E : Ev} {cc : ByteArray} {nL : Nat} {ret : Option FieldType} {R : Room} {cl sl : Nat} {Z : Zt} {pc : Nat} {L st : List Vv} {M : Mm} {N : Nn} {a b : Nat} (hd : decode cc pc = .ok (.getfield 29, 3)) (k : Go E RX7 cc nL ret R cl sl Z (pc + 3) L (vr (7, 0, 0) :: st) M N) : Go E RX7 cc nL ret R cl sl Z (pc) L (vr (3, a, b) :: st) M N := go_get2 hd f7_29 rfl rfl rfl rfl rfl k
theorem fw7_36 : Cond.fieldLink RX7 36 (TX7 4).1 (TX7 4).2.1 (TX7 4).2.2.1 ∈ BIG := bg2 72 (by decide +kernel) rfl
theorem f7_36 : FLk RX7 36 7 4 := ⟨RX7, TX7, 12, rfl, by decide, rfl, ly7, fw7_36⟩
/-- RoundedSums.pieces -/
theorem g7_36 {E : Ev} {cc : ByteArray} {nL : Nat} {ret : Option FieldType} {R : Room} {cl sl : Nat} {Z : Zt} {pc : Nat} {L st : List Vv} {M : Mm} {N : Nn} {a b : Nat} (hd : decode cc pc = .ok (.getfield 36, 3)) (k : Go E RX7 cc nL ret R cl sl Z (pc + 3) L (vr (17, 0, 0) :: st) M N) : Go E RX7 cc nL ret R cl sl Z (pc) L (vr (3, a, b) :: st) M N := go_get2 hd f7_36 rfl rfl rfl rfl rfl k
theorem fw7_43 : Cond.fieldLink RX7 43 (TX7 5).1 (TX7 5).2.1 (TX7 5).2.2.1 ∈ BIG := bg2 73 (by decide +kernel) rfl
theorem f7_43 : FLk RX7 43 7 5 := ⟨RX7, TX7, 12, rfl, by decide, rfl, ly7, fw7_43⟩
/-- RoundedSums.seeker -/
theorem g7_43 {E : Ev} {cc : ByteArray} {nL : Nat} {ret : Option FieldType} {R : Room} {cl sl : Nat} {Z : Zt} {pc : Nat} {L st : List Vv} {M : Mm} {N : Nn} {a b : Nat} (hd : decode cc pc = .ok (.getfield 43, 3)) (k : Go E RX7 cc nL ret R cl sl Z (pc + 3) L (vr (23, 0, 0) :: st) M N) : Go E RX7 cc nL ret R cl sl Z (pc) L (vr (3, a, b) :: st) M N := go_get2 hd f7_43 rfl rfl rfl rfl rfl k
theorem fw7_50 : Cond.fieldLink RX7 50 (TX7 6).1 (TX7 6).2.1 (TX7 6).2.2.1 ∈ BIG := bg2 74 (by decide +kernel) rfl
theorem f7_50 : FLk RX7 50 7 6 := ⟨RX7, TX7, 12, rfl, by decide, rfl, ly7, fw7_50⟩
/-- RoundedSums.current -/
theorem g7_50 {E : Ev} {cc : ByteArray} {nL : Nat} {ret : Option FieldType} {R : Room} {cl sl : Nat} {Z : Zt} {pc : Nat} {L st : List Vv} {M : Mm} {N : Nn} {a b : Nat} (hd : decode cc pc = .ok (.getfield 50, 3)) (k : Go E RX7 cc nL ret R cl sl Z (pc + 3) L (vr (N (3, a, b) 6) :: st) M N) : Go E RX7 cc nL ret R cl sl Z (pc) L (vr (3, a, b) :: st) M N := go_get3 hd f7_50 rfl rfl rfl k
theorem q7_50 : PLk RX7 50 7 6 (.object "RoundedSums$Program") := ⟨RX7, TX7, 12, rfl, by decide, rfl, ly7, fw7_50, ⟨tyX7, tyX7_ok⟩, nmX7, rfl, by decide +kernel⟩
theorem p7_50 {E : Ev} {cc : ByteArray} {nL : Nat} {ret : Option FieldType} {R : Room} {cl sl : Nat} {Z : Zt} {pc : Nat} {L st : List Vv} {M : Mm} {N : Nn} {a b : Nat} {r : Nm} (hd : decode cc pc = .ok (.putfield 50, 3)) (hr : Nat.beq r.1 0 = false) (k : Go E RX7 cc nL ret R cl sl Z (pc + 3) L (st) M (wrN N (3, a, b) 6 r)) : Go E RX7 cc nL ret R cl sl Z (pc) L (vr r :: vr (3, a, b) :: st) M N := go_put3 hd q7_50 rfl rfl rfl (fun _ => ⟨rfl, rfl⟩) hr k
theorem fw7_54 : Cond.fieldLink RX7 54 (TX7 7).1 (TX7 7).2.1 (TX7 7).2.2.1 ∈ BIG := bg2 75 (by decide +kernel) rfl
theorem f7_54 : FLk RX7 54 7 7 := ⟨RX7, TX7, 12, rfl, by decide, rfl, ly7, fw7_54⟩
/-- RoundedSums.spare -/
theorem g7_54 {E : Ev} {cc : ByteArray} {nL : Nat} {ret : Option FieldType} {R : Room} {cl sl : Nat} {Z : Zt} {pc : Nat} {L st : List Vv} {M : Mm} {N : Nn} {a b : Nat} (hd : decode cc pc = .ok (.getfield 54, 3)) (k : Go E RX7 cc nL ret R cl sl Z (pc + 3) L (vr (N (3, a, b) 7) :: st) M N) : Go E RX7 cc nL ret R cl sl Z (pc) L (vr (3, a, b) :: st) M N := go_get3 hd f7_54 rfl rfl rfl k
theorem q7_54 : PLk RX7 54 7 7 (.object "RoundedSums$Program") := ⟨RX7, TX7, 12, rfl, by decide, rfl, ly7, fw7_54, ⟨tyX7, tyX7_ok⟩, nmX7, rfl, by decide +kernel⟩
theorem p7_54 {E : Ev} {cc : ByteArray} {nL : Nat} {ret : Option FieldType} {R : Room} {cl sl : Nat} {Z : Zt} {pc : Nat} {L st : List Vv} {M : Mm} {N : Nn} {a b : Nat} {r : Nm} (hd : decode cc pc = .ok (.putfield 54, 3)) (hr : Nat.beq r.1 0 = false) (k : Go E RX7 cc nL ret R cl sl Z (pc + 3) L (st) M (wrN N (3, a, b) 7 r)) : Go E RX7 cc nL ret R cl sl Z (pc) L (vr r :: vr (3, a, b) :: st) M N := go_put3 hd q7_54 rfl rfl rfl (fun _ => ⟨rfl, rfl⟩) hr k
theorem fw7_57 : Cond.fieldLink RX7 57 (TX7 8).1 (TX7 8).2.1 (TX7 8).2.2.1 ∈ BIG := bg2 76 (by decide +kernel) rfl
theorem f7_57 : FLk RX7 57 7 8 := ⟨RX7, TX7, 12, rfl, by decide, rfl, ly7, fw7_57⟩
/-- RoundedSums.tapeLength -/
theorem g7_57 {E : Ev} {cc : ByteArray} {nL : Nat} {ret : Option FieldType} {R : Room} {cl sl : Nat} {Z : Zt} {pc : Nat} {L st : List Vv} {M : Mm} {N : Nn} {a b : Nat} (hd : decode cc pc = .ok (.getfield 57, 3)) (k : Go E RX7 cc nL ret R cl sl Z (pc + 3) L (vi (M (3, a, b) 8) :: st) M N) : Go E RX7 cc nL ret R cl sl Z (pc) L (vr (3, a, b) :: st) M N := go_get0 hd f7_57 rfl rfl rfl k
theorem q7_57 : PLk RX7 57 7 8 (.int) := ⟨RX7, TX7, 12, rfl, by decide, rfl, ly7, fw7_57, ⟨tyX7, tyX7_ok⟩, nmX7, rfl, by decide +kernel⟩
theorem p7_57 {E : Ev} {cc : ByteArray} {nL : Nat} {ret : Option FieldType} {R : Room} {cl sl : Nat} {Z : Zt} {pc : Nat} {L st : List Vv} {M : Mm} {N : Nn} {a b : Nat} {x : Int} (hd : decode cc pc = .ok (.putfield 57, 3)) (k : Go E RX7 cc nL ret R cl sl Z (pc + 3) L (st) (wr M (3, a, b) 8 x) N) : Go E RX7 cc nL ret R cl sl Z (pc) L (vi x :: vr (3, a, b) :: st) M N := go_put0 hd q7_57 rfl rfl rfl rfl rfl k
theorem fw7_61 : Cond.fieldLink RX7 61 (TX7 9).1 (TX7 9).2.1 (TX7 9).2.2.1 ∈ BIG := bg2 77 (by decide +kernel) rfl
theorem f7_61 : FLk RX7 61 7 9 := ⟨RX7, TX7, 12, rfl, by decide, rfl, ly7, fw7_61⟩
/-- RoundedSums.troubleNumber -/
theorem g7_61 {E : Ev} {cc : ByteArray} {nL : Nat} {ret : Option FieldType} {R : Room} {cl sl : Nat} {Z : Zt} {pc : Nat} {L st : List Vv} {M : Mm} {N : Nn} {a b : Nat} (hd : decode cc pc = .ok (.getfield 61, 3)) (k : Go E RX7 cc nL ret R cl sl Z (pc + 3) L (vi (M (3, a, b) 9) :: st) M N) : Go E RX7 cc nL ret R cl sl Z (pc) L (vr (3, a, b) :: st) M N := go_get0 hd f7_61 rfl rfl rfl k
theorem q7_61 : PLk RX7 61 7 9 (.int) := ⟨RX7, TX7, 12, rfl, by decide, rfl, ly7, fw7_61, ⟨tyX7, tyX7_ok⟩, nmX7, rfl, by decide +kernel⟩
theorem p7_61 {E : Ev} {cc : ByteArray} {nL : Nat} {ret : Option FieldType} {R : Room} {cl sl : Nat} {Z : Zt} {pc : Nat} {L st : List Vv} {M : Mm} {N : Nn} {a b : Nat} {x : Int} (hd : decode cc pc = .ok (.putfield 61, 3)) (k : Go E RX7 cc nL ret R cl sl Z (pc + 3) L (st) (wr M (3, a, b) 9 x) N) : Go E RX7 cc nL ret R cl sl Z (pc) L (vi x :: vr (3, a, b) :: st) M N := go_put0 hd q7_61 rfl rfl rfl rfl rfl k
theorem fw7_64 : Cond.fieldLink RX7 64 (TX7 10).1 (TX7 10).2.1 (TX7 10).2.2.1 ∈ BIG := bg2 78 (by decide +kernel) rfl
theorem f7_64 : FLk RX7 64 7 10 := ⟨RX7, TX7, 12, rfl, by decide, rfl, ly7, fw7_64⟩
/-- RoundedSums.faultNumber -/
theorem g7_64 {E : Ev} {cc : ByteArray} {nL : Nat} {ret : Option FieldType} {R : Room} {cl sl : Nat} {Z : Zt} {pc : Nat} {L st : List Vv} {M : Mm} {N : Nn} {a b : Nat} (hd : decode cc pc = .ok (.getfield 64, 3)) (k : Go E RX7 cc nL ret R cl sl Z (pc + 3) L (vi (M (3, a, b) 10) :: st) M N) : Go E RX7 cc nL ret R cl sl Z (pc) L (vr (3, a, b) :: st) M N := go_get0 hd f7_64 rfl rfl rfl k
theorem q7_64 : PLk RX7 64 7 10 (.int) := ⟨RX7, TX7, 12, rfl, by decide, rfl, ly7, fw7_64, ⟨tyX7, tyX7_ok⟩, nmX7, rfl, by decide +kernel⟩
theorem p7_64 {E : Ev} {cc : ByteArray} {nL : Nat} {ret : Option FieldType} {R : Room} {cl sl : Nat} {Z : Zt} {pc : Nat} {L st : List Vv} {M : Mm} {N : Nn} {a b : Nat} {x : Int} (hd : decode cc pc = .ok (.putfield 64, 3)) (k : Go E RX7 cc nL ret R cl sl Z (pc + 3) L (st) (wr M (3, a, b) 10 x) N) : Go E RX7 cc nL ret R cl sl Z (pc) L (vi x :: vr (3, a, b) :: st) M N := go_put0 hd q7_64 rfl rfl rfl rfl rfl k
theorem fw7_67 : Cond.fieldLink RX7 67 (TX7 11).1 (TX7 11).2.1 (TX7 11).2.2.1 ∈ BIG := bg2 79 (by decide +kernel) rfl
theorem f7_67 : FLk RX7 67 7 11 := ⟨RX7, TX7, 12, rfl, by decide, rfl, ly7, fw7_67⟩
/-- RoundedSums.faultPlace -/
theorem g7_67 {E : Ev} {cc : ByteArray} {nL : Nat} {ret : Option FieldType} {R : Room} {cl sl : Nat} {Z : Zt} {pc : Nat} {L st : List Vv} {M : Mm} {N : Nn} {a b : Nat} (hd : decode cc pc = .ok (.getfield 67, 3)) (k : Go E RX7 cc nL ret R cl sl Z (pc + 3) L (vi (M (3, a, b) 11) :: st) M N) : Go E RX7 cc nL ret R cl sl Z (pc) L (vr (3, a, b) :: st) M N := go_get0 hd f7_67 rfl rfl rfl k
theorem q7_67 : PLk RX7 67 7 11 (.int) := ⟨RX7, TX7, 12, rfl, by decide, rfl, ly7, fw7_67, ⟨tyX7, tyX7_ok⟩, nmX7, rfl, by decide +kernel⟩
theorem p7_67 {E : Ev} {cc : ByteArray} {nL : Nat} {ret : Option FieldType} {R : Room} {cl sl : Nat} {Z : Zt} {pc : Nat} {L st : List Vv} {M : Mm} {N : Nn} {a b : Nat} {x : Int} (hd : decode cc pc = .ok (.putfield 67, 3)) (k : Go E RX7 cc nL ret R cl sl Z (pc + 3) L (st) (wr M (3, a, b) 11 x) N) : Go E RX7 cc nL ret R cl sl Z (pc) L (vi x :: vr (3, a, b) :: st) M N := go_put0 hd q7_67 rfl rfl rfl rfl rfl k
theorem fw7_82 : Cond.fieldLink RX7 82 (TX4 0).1 (TX4 0).2.1 (TX4 0).2.2.1 ∈ BIG := bg1 35 (by decide +kernel) rfl
theorem f7_82 : FLk RX7 82 4 0 := ⟨RX4, TX4, 13, rfl, by decide, rfl, ly4, fw7_82⟩
/-- RoundedSums$Reader.faultNumber -/
theorem g7_82 {E : Ev} {cc : ByteArray} {nL : Nat} {ret : Option FieldType} {R : Room} {cl sl : Nat} {Z : Zt} {pc : Nat} {L st : List Vv} {M : Mm} {N : Nn} {a b : Nat} (hd : decode cc pc = .ok (.getfield 82, 3)) (k : Go E RX7 cc nL ret R cl sl Z (pc + 3) L (vi (M (6, a, b) 0) :: st) M N) : Go E RX7 cc nL ret R cl sl Z (pc) L (vr (6, a, b) :: st) M N := go_get0 hd f7_82 rfl rfl rfl k
theorem q7_82 : PLk RX7 82 4 0 (.int) := ⟨RX4, TX4, 13, rfl, by decide, rfl, ly4, fw7_82, ⟨tyX4, tyX4_ok⟩, nmX4, rfl, by decide +kernel⟩
theorem p7_82 {E : Ev} {cc : ByteArray} {nL : Nat} {ret : Option FieldType} {R : Room} {cl sl : Nat} {Z : Zt} {pc : Nat} {L st : List Vv} {M : Mm} {N : Nn} {a b : Nat} {x : Int} (hd : decode cc pc = .ok (.putfield 82, 3)) (k : Go E RX7 cc nL ret R cl sl Z (pc + 3) L (st) (wr M (6, a, b) 0 x) N) : Go E RX7 cc nL ret R cl sl Z (pc) L (vi x :: vr (6, a, b) :: st) M N := go_put0 hd q7_82 rfl rfl rfl rfl rfl k
theorem fw7_83 : Cond.fieldLink RX7 83 (TX4 1).1 (TX4 1).2.1 (TX4 1).2.2.1 ∈ BIG := bg1 37 (by decide +kernel) rfl
theorem f7_83 : FLk RX7 83 4 1 := ⟨RX4, TX4, 13, rfl, by decide, rfl, ly4, fw7_83⟩
/-- RoundedSums$Reader.faultPlace -/
theorem g7_83 {E : Ev} {cc : ByteArray} {nL : Nat} {ret : Option FieldType} {R : Room} {cl sl : Nat} {Z : Zt} {pc : Nat} {L st : List Vv} {M : Mm} {N : Nn} {a b : Nat} (hd : decode cc pc = .ok (.getfield 83, 3)) (k : Go E RX7 cc nL ret R cl sl Z (pc + 3) L (vi (M (6, a, b) 1) :: st) M N) : Go E RX7 cc nL ret R cl sl Z (pc) L (vr (6, a, b) :: st) M N := go_get0 hd f7_83 rfl rfl rfl k
theorem q7_83 : PLk RX7 83 4 1 (.int) := ⟨RX4, TX4, 13, rfl, by decide, rfl, ly4, fw7_83, ⟨tyX4, tyX4_ok⟩, nmX4, rfl, by decide +kernel⟩
theorem p7_83 {E : Ev} {cc : ByteArray} {nL : Nat} {ret : Option FieldType} {R : Room} {cl sl : Nat} {Z : Zt} {pc : Nat} {L st : List Vv} {M : Mm} {N : Nn} {a b : Nat} {x : Int} (hd : decode cc pc = .ok (.putfield 83, 3)) (k : Go E RX7 cc nL ret R cl sl Z (pc + 3) L (st) (wr M (6, a, b) 1 x) N) : Go E RX7 cc nL ret R cl sl Z (pc) L (vi x :: vr (6, a, b) :: st) M N := go_put0 hd q7_83 rfl rfl rfl rfl rfl k
theorem fw7_87 : Cond.fieldLink RX7 87 (TX3 12).1 (TX3 12).2.1 (TX3 12).2.2.1 ∈ BIG := bg1 212 (by decide +kernel) rfl
theorem f7_87 : FLk RX7 87 3 12 := ⟨RX3, TX3, 13, rfl, by decide, rfl, ly3, fw7_87⟩
/-- RoundedSums$Program.inputs -/
theorem g7_87 {E : Ev} {cc : ByteArray} {nL : Nat} {ret : Option FieldType} {R : Room} {cl sl : Nat} {Z : Zt} {pc : Nat} {L st : List Vv} {M : Mm} {N : Nn} {a b : Nat} (hd : decode cc pc = .ok (.getfield 87, 3)) (k : Go E RX7 cc nL ret R cl sl Z (pc + 3) L (vi (M (18, a, b) 12) :: st) M N) : Go E RX7 cc nL ret R cl sl Z (pc) L (vr (18, a, b) :: st) M N := go_get0 hd f7_87 rfl rfl rfl k
theorem q7_87 : PLk RX7 87 3 12 (.int) := ⟨RX3, TX3, 13, rfl, by decide, rfl, ly3, fw7_87, ⟨tyX3, tyX3_ok⟩, nmX3, rfl, by decide +kernel⟩
theorem p7_87 {E : Ev} {cc : ByteArray} {nL : Nat} {ret : Option FieldType} {R : Room} {cl sl : Nat} {Z : Zt} {pc : Nat} {L st : List Vv} {M : Mm} {N : Nn} {a b : Nat} {x : Int} (hd : decode cc pc = .ok (.putfield 87, 3)) (k : Go E RX7 cc nL ret R cl sl Z (pc + 3) L (st) (wr M (18, a, b) 12 x) N) : Go E RX7 cc nL ret R cl sl Z (pc) L (vi x :: vr (18, a, b) :: st) M N := go_put0 hd q7_87 rfl rfl rfl rfl rfl k
theorem fw7_90 : Cond.fieldLink RX7 90 (TX3 10).1 (TX3 10).2.1 (TX3 10).2.2.1 ∈ BIG := bg1 202 (by decide +kernel) rfl
theorem f7_90 : FLk RX7 90 3 10 := ⟨RX3, TX3, 13, rfl, by decide, rfl, ly3, fw7_90⟩
/-- RoundedSums$Program.inputAt -/
theorem g7_90 {E : Ev} {cc : ByteArray} {nL : Nat} {ret : Option FieldType} {R : Room} {cl sl : Nat} {Z : Zt} {pc : Nat} {L st : List Vv} {M : Mm} {N : Nn} {a b : Nat} (hd : decode cc pc = .ok (.getfield 90, 3)) (k : Go E RX7 cc nL ret R cl sl Z (pc + 3) L (vr (19, a, 10) :: st) M N) : Go E RX7 cc nL ret R cl sl Z (pc) L (vr (18, a, b) :: st) M N := go_get2 hd f7_90 rfl rfl rfl rfl rfl k
theorem fw7_93 : Cond.fieldLink RX7 93 (TX3 2).1 (TX3 2).2.1 (TX3 2).2.2.1 ∈ BIG := bg1 175 (by decide +kernel) rfl
theorem f7_93 : FLk RX7 93 3 2 := ⟨RX3, TX3, 13, rfl, by decide, rfl, ly3, fw7_93⟩
/-- RoundedSums$Program.from -/
theorem g7_93 {E : Ev} {cc : ByteArray} {nL : Nat} {ret : Option FieldType} {R : Room} {cl sl : Nat} {Z : Zt} {pc : Nat} {L st : List Vv} {M : Mm} {N : Nn} {a b : Nat} (hd : decode cc pc = .ok (.getfield 93, 3)) (k : Go E RX7 cc nL ret R cl sl Z (pc + 3) L (vr (19, a, 2) :: st) M N) : Go E RX7 cc nL ret R cl sl Z (pc) L (vr (18, a, b) :: st) M N := go_get2 hd f7_93 rfl rfl rfl rfl rfl k
theorem fw7_96 : Cond.fieldLink RX7 96 (TX3 11).1 (TX3 11).2.1 (TX3 11).2.2.1 ∈ BIG := bg1 206 (by decide +kernel) rfl
theorem f7_96 : FLk RX7 96 3 11 := ⟨RX3, TX3, 13, rfl, by decide, rfl, ly3, fw7_96⟩
/-- RoundedSums$Program.count -/
theorem g7_96 {E : Ev} {cc : ByteArray} {nL : Nat} {ret : Option FieldType} {R : Room} {cl sl : Nat} {Z : Zt} {pc : Nat} {L st : List Vv} {M : Mm} {N : Nn} {a b : Nat} (hd : decode cc pc = .ok (.getfield 96, 3)) (k : Go E RX7 cc nL ret R cl sl Z (pc + 3) L (vi (M (18, a, b) 11) :: st) M N) : Go E RX7 cc nL ret R cl sl Z (pc) L (vr (18, a, b) :: st) M N := go_get0 hd f7_96 rfl rfl rfl k
theorem q7_96 : PLk RX7 96 3 11 (.int) := ⟨RX3, TX3, 13, rfl, by decide, rfl, ly3, fw7_96, ⟨tyX3, tyX3_ok⟩, nmX3, rfl, by decide +kernel⟩
theorem p7_96 {E : Ev} {cc : ByteArray} {nL : Nat} {ret : Option FieldType} {R : Room} {cl sl : Nat} {Z : Zt} {pc : Nat} {L st : List Vv} {M : Mm} {N : Nn} {a b : Nat} {x : Int} (hd : decode cc pc = .ok (.putfield 96, 3)) (k : Go E RX7 cc nL ret R cl sl Z (pc + 3) L (st) (wr M (18, a, b) 11 x) N) : Go E RX7 cc nL ret R cl sl Z (pc) L (vi x :: vr (18, a, b) :: st) M N := go_put0 hd q7_96 rfl rfl rfl rfl rfl k
theorem fw7_103 : Cond.fieldLink RX7 103 (TX1 3).1 (TX1 3).2.1 (TX1 3).2.2.1 ∈ BIG := bg1 113 (by decide +kernel) rfl
theorem f7_103 : FLk RX7 103 1 3 := ⟨RX1, TX1, 14, rfl, by decide, rfl, ly1, fw7_103⟩
/-- RoundedSums$Forms.noises -/
theorem g7_103 {E : Ev} {cc : ByteArray} {nL : Nat} {ret : Option FieldType} {R : Room} {cl sl : Nat} {Z : Zt} {pc : Nat} {L st : List Vv} {M : Mm} {N : Nn} {a b : Nat} (hd : decode cc pc = .ok (.getfield 103, 3)) (k : Go E RX7 cc nL ret R cl sl Z (pc + 3) L (vi (M (7, a, b) 3) :: st) M N) : Go E RX7 cc nL ret R cl sl Z (pc) L (vr (7, a, b) :: st) M N := go_get0 hd f7_103 rfl rfl rfl k
theorem q7_103 : PLk RX7 103 1 3 (.int) := ⟨RX1, TX1, 14, rfl, by decide, rfl, ly1, fw7_103, ⟨tyX1, tyX1_ok⟩, nmX1, rfl, by decide +kernel⟩
theorem p7_103 {E : Ev} {cc : ByteArray} {nL : Nat} {ret : Option FieldType} {R : Room} {cl sl : Nat} {Z : Zt} {pc : Nat} {L st : List Vv} {M : Mm} {N : Nn} {a b : Nat} {x : Int} (hd : decode cc pc = .ok (.putfield 103, 3)) (k : Go E RX7 cc nL ret R cl sl Z (pc + 3) L (st) (wr M (7, a, b) 3 x) N) : Go E RX7 cc nL ret R cl sl Z (pc) L (vi x :: vr (7, a, b) :: st) M N := go_put0 hd q7_103 rfl rfl rfl rfl rfl k
theorem fw7_129 : Cond.fieldLink RX7 129 (TX3 3).1 (TX3 3).2.1 (TX3 3).2.2.1 ∈ BIG := bg1 180 (by decide +kernel) rfl
theorem f7_129 : FLk RX7 129 3 3 := ⟨RX3, TX3, 13, rfl, by decide, rfl, ly3, fw7_129⟩
/-- RoundedSums$Program.to -/
theorem g7_129 {E : Ev} {cc : ByteArray} {nL : Nat} {ret : Option FieldType} {R : Room} {cl sl : Nat} {Z : Zt} {pc : Nat} {L st : List Vv} {M : Mm} {N : Nn} {a b : Nat} (hd : decode cc pc = .ok (.getfield 129, 3)) (k : Go E RX7 cc nL ret R cl sl Z (pc + 3) L (vr (19, a, 3) :: st) M N) : Go E RX7 cc nL ret R cl sl Z (pc) L (vr (18, a, b) :: st) M N := go_get2 hd f7_129 rfl rfl rfl rfl rfl k
theorem fw7_132 : Cond.fieldLink RX7 132 (TX3 0).1 (TX3 0).2.1 (TX3 0).2.2.1 ∈ BIG := bg1 170 (by decide +kernel) rfl
theorem f7_132 : FLk RX7 132 3 0 := ⟨RX3, TX3, 13, rfl, by decide, rfl, ly3, fw7_132⟩
/-- RoundedSums$Program.sign -/
theorem g7_132 {E : Ev} {cc : ByteArray} {nL : Nat} {ret : Option FieldType} {R : Room} {cl sl : Nat} {Z : Zt} {pc : Nat} {L st : List Vv} {M : Mm} {N : Nn} {a b : Nat} (hd : decode cc pc = .ok (.getfield 132, 3)) (k : Go E RX7 cc nL ret R cl sl Z (pc + 3) L (vr (19, a, 0) :: st) M N) : Go E RX7 cc nL ret R cl sl Z (pc) L (vr (18, a, b) :: st) M N := go_get2 hd f7_132 rfl rfl rfl rfl rfl k
theorem fw7_137 : Cond.fieldLink RX7 137 (TX3 4).1 (TX3 4).2.1 (TX3 4).2.2.1 ∈ BIG := bg1 185 (by decide +kernel) rfl
theorem f7_137 : FLk RX7 137 3 4 := ⟨RX3, TX3, 13, rfl, by decide, rfl, ly3, fw7_137⟩
/-- RoundedSums$Program.gridOf -/
theorem g7_137 {E : Ev} {cc : ByteArray} {nL : Nat} {ret : Option FieldType} {R : Room} {cl sl : Nat} {Z : Zt} {pc : Nat} {L st : List Vv} {M : Mm} {N : Nn} {a b : Nat} (hd : decode cc pc = .ok (.getfield 137, 3)) (k : Go E RX7 cc nL ret R cl sl Z (pc + 3) L (vr (19, a, 4) :: st) M N) : Go E RX7 cc nL ret R cl sl Z (pc) L (vr (18, a, b) :: st) M N := go_get2 hd f7_137 rfl rfl rfl rfl rfl k
theorem fw7_140 : Cond.fieldLink RX7 140 (TX3 5).1 (TX3 5).2.1 (TX3 5).2.2.1 ∈ BIG := bg1 187 (by decide +kernel) rfl
theorem f7_140 : FLk RX7 140 3 5 := ⟨RX3, TX3, 13, rfl, by decide, rfl, ly3, fw7_140⟩
/-- RoundedSums$Program.fineOf -/
theorem g7_140 {E : Ev} {cc : ByteArray} {nL : Nat} {ret : Option FieldType} {R : Room} {cl sl : Nat} {Z : Zt} {pc : Nat} {L st : List Vv} {M : Mm} {N : Nn} {a b : Nat} (hd : decode cc pc = .ok (.getfield 140, 3)) (k : Go E RX7 cc nL ret R cl sl Z (pc + 3) L (vr (19, a, 5) :: st) M N) : Go E RX7 cc nL ret R cl sl Z (pc) L (vr (18, a, b) :: st) M N := go_get2 hd f7_140 rfl rfl rfl rfl rfl k
theorem fw7_143 : Cond.fieldLink RX7 143 (TX3 6).1 (TX3 6).2.1 (TX3 6).2.2.1 ∈ BIG := bg1 189 (by decide +kernel) rfl
theorem f7_143 : FLk RX7 143 3 6 := ⟨RX3, TX3, 13, rfl, by decide, rfl, ly3, fw7_143⟩
/-- RoundedSums$Program.weightOf -/
theorem g7_143 {E : Ev} {cc : ByteArray} {nL : Nat} {ret : Option FieldType} {R : Room} {cl sl : Nat} {Z : Zt} {pc : Nat} {L st : List Vv} {M : Mm} {N : Nn} {a b : Nat} (hd : decode cc pc = .ok (.getfield 143, 3)) (k : Go E RX7 cc nL ret R cl sl Z (pc + 3) L (vr (19, a, 6) :: st) M N) : Go E RX7 cc nL ret R cl sl Z (pc) L (vr (18, a, b) :: st) M N := go_get2 hd f7_143 rfl rfl rfl rfl rfl k
theorem fw7_153 : Cond.fieldLink RX7 153 (TX3 8).1 (TX3 8).2.1 (TX3 8).2.2.1 ∈ BIG := bg1 194 (by decide +kernel) rfl
theorem f7_153 : FLk RX7 153 3 8 := ⟨RX3, TX3, 13, rfl, by decide, rfl, ly3, fw7_153⟩
/-- RoundedSums$Program.operandVariable -/
theorem g7_153 {E : Ev} {cc : ByteArray} {nL : Nat} {ret : Option FieldType} {R : Room} {cl sl : Nat} {Z : Zt} {pc : Nat} {L st : List Vv} {M : Mm} {N : Nn} {a b : Nat} (hd : decode cc pc = .ok (.getfield 153, 3)) (k : Go E RX7 cc nL ret R cl sl Z (pc + 3) L (vr (19, a, 8) :: st) M N) : Go E RX7 cc nL ret R cl sl Z (pc) L (vr (18, a, b) :: st) M N := go_get2 hd f7_153 rfl rfl rfl rfl rfl k
theorem fw7_159 : Cond.fieldLink RX7 159 (TX6 3).1 (TX6 3).2.1 (TX6 3).2.2.1 ∈ BIG := bg2 53 (by decide +kernel) rfl
theorem f7_159 : FLk RX7 159 6 3 := ⟨RX6, TX6, 5, rfl, by decide, rfl, ly6, fw7_159⟩
/-- RoundedSums$Seeker.run -/
theorem g7_159 {E : Ev} {cc : ByteArray} {nL : Nat} {ret : Option FieldType} {R : Room} {cl sl : Nat} {Z : Zt} {pc : Nat} {L st : List Vv} {M : Mm} {N : Nn} {a b : Nat} (hd : decode cc pc = .ok (.getfield 159, 3)) (k : Go E RX7 cc nL ret R cl sl Z (pc + 3) L (vr (26, 0, 0) :: st) M N) : Go E RX7 cc nL ret R cl sl Z (pc) L (vr (23, a, b) :: st) M N := go_get2 hd f7_159 rfl rfl rfl rfl rfl k
theorem fw7_169 : Cond.fieldLink RX7 169 (TX5 0).1 (TX5 0).2.1 (TX5 0).2.2.1 ∈ BIG := bg2 39 (by decide +kernel) rfl
theorem f7_169 : FLk RX7 169 5 0 := ⟨RX5, TX5, 2, rfl, by decide, rfl, ly5, fw7_169⟩
/-- RoundedSums$Run.exact -/
theorem g7_169 {E : Ev} {cc : ByteArray} {nL : Nat} {ret : Option FieldType} {R : Room} {cl sl : Nat} {Z : Zt} {pc : Nat} {L st : List Vv} {M : Mm} {N : Nn} {a b : Nat} (hd : decode cc pc = .ok (.getfield 169, 3)) (k : Go E RX7 cc nL ret R cl sl Z (pc + 3) L (vr (27, 0, 0) :: st) M N) : Go E RX7 cc nL ret R cl sl Z (pc) L (vr (26, a, b) :: st) M N := go_get2 hd f7_169 rfl rfl rfl rfl rfl k
theorem fw7_172 : Cond.fieldLink RX7 172 (TX5 1).1 (TX5 1).2.1 (TX5 1).2.2.1 ∈ BIG := bg2 41 (by decide +kernel) rfl
theorem f7_172 : FLk RX7 172 5 1 := ⟨RX5, TX5, 2, rfl, by decide, rfl, ly5, fw7_172⟩
/-- RoundedSums$Run.computed -/
theorem g7_172 {E : Ev} {cc : ByteArray} {nL : Nat} {ret : Option FieldType} {R : Room} {cl sl : Nat} {Z : Zt} {pc : Nat} {L st : List Vv} {M : Mm} {N : Nn} {a b : Nat} (hd : decode cc pc = .ok (.getfield 172, 3)) (k : Go E RX7 cc nL ret R cl sl Z (pc + 3) L (vr (28, 0, 0) :: st) M N) : Go E RX7 cc nL ret R cl sl Z (pc) L (vr (26, a, b) :: st) M N := go_get2 hd f7_172 rfl rfl rfl rfl rfl k
theorem fw7_186 : Cond.fieldLink RX7 186 (TX0 1).1 (TX0 1).2.1 (TX0 1).2.2.1 ∈ BIG := bg1 96 (by decide +kernel) rfl
theorem f7_186 : FLk RX7 186 0 1 := ⟨RX0, TX0, 3, rfl, by decide, rfl, ly0, fw7_186⟩
/-- RoundedSums$Form.middle -/
theorem g7_186 {E : Ev} {cc : ByteArray} {nL : Nat} {ret : Option FieldType} {R : Room} {cl sl : Nat} {Z : Zt} {pc : Nat} {L st : List Vv} {M : Mm} {N : Nn} {a b : Nat} (hd : decode cc pc = .ok (.getfield 186, 3)) (k : Go E RX7 cc nL ret R cl sl Z (pc + 3) L (vl (M (15, a, b) 1) :: st) M N) : Go E RX7 cc nL ret R cl sl Z (pc) L (vr (15, a, b) :: st) M N := go_get1 hd f7_186 rfl rfl rfl k
theorem q7_186 : PLk RX7 186 0 1 (.long) := ⟨RX0, TX0, 3, rfl, by decide, rfl, ly0, fw7_186, ⟨tyX0, tyX0_ok⟩, nmX0, rfl, by decide +kernel⟩
theorem p7_186 {E : Ev} {cc : ByteArray} {nL : Nat} {ret : Option FieldType} {R : Room} {cl sl : Nat} {Z : Zt} {pc : Nat} {L st : List Vv} {M : Mm} {N : Nn} {a b : Nat} {x : Int} (hd : decode cc pc = .ok (.putfield 186, 3)) (k : Go E RX7 cc nL ret R cl sl Z (pc + 3) L (st) (wr M (15, a, b) 1 x) N) : Go E RX7 cc nL ret R cl sl Z (pc) L (vl x :: vr (15, a, b) :: st) M N := go_put1 hd q7_186 rfl rfl rfl k
theorem fw7_192 : Cond.fieldLink RX7 192 (TX0 0).1 (TX0 0).2.1 (TX0 0).2.2.1 ∈ BIG := bg1 93 (by decide +kernel) rfl
theorem f7_192 : FLk RX7 192 0 0 := ⟨RX0, TX0, 3, rfl, by decide, rfl, ly0, fw7_192⟩
/-- RoundedSums$Form.numbers -/
theorem g7_192 {E : Ev} {cc : ByteArray} {nL : Nat} {ret : Option FieldType} {R : Room} {cl sl : Nat} {Z : Zt} {pc : Nat} {L st : List Vv} {M : Mm} {N : Nn} {a b : Nat} (hd : decode cc pc = .ok (.getfield 192, 3)) (k : Go E RX7 cc nL ret R cl sl Z (pc + 3) L (vr (16, a, b) :: st) M N) : Go E RX7 cc nL ret R cl sl Z (pc) L (vr (15, a, b) :: st) M N := go_get2 hd f7_192 rfl rfl rfl rfl rfl k
theorem fw7_207 : Cond.fieldLink RX7 207 (TX1 1).1 (TX1 1).2.1 (TX1 1).2.2.1 ∈ BIG := bg1 109 (by decide +kernel) rfl
theorem f7_207 : FLk RX7 207 1 1 := ⟨RX1, TX1, 14, rfl, by decide, rfl, ly1, fw7_207⟩
/-- RoundedSums$Forms.bringer -/
theorem g7_207 {E : Ev} {cc : ByteArray} {nL : Nat} {ret : Option FieldType} {R : Room} {cl sl : Nat} {Z : Zt} {pc : Nat} {L st : List Vv} {M : Mm} {N : Nn} {a b : Nat} (hd : decode cc pc = .ok (.getfield 207, 3)) (k : Go E RX7 cc nL ret R cl sl Z (pc + 3) L (vr (9, a, 0) :: st) M N) : Go E RX7 cc nL ret R cl sl Z (pc) L (vr (7, a, b) :: st) M N := go_get2 hd f7_207 rfl rfl rfl rfl rfl k
theorem fw7_210 : Cond.fieldLink RX7 210 (TX1 2).1 (TX1 2).2.1 (TX1 2).2.2.1 ∈ BIG := bg1 111 (by decide +kernel) rfl
theorem f7_210 : FLk RX7 210 1 2 := ⟨RX1, TX1, 14, rfl, by decide, rfl, ly1, fw7_210⟩
/-- RoundedSums$Forms.broughtBy -/
theorem g7_210 {E : Ev} {cc : ByteArray} {nL : Nat} {ret : Option FieldType} {R : Room} {cl sl : Nat} {Z : Zt} {pc : Nat} {L st : List Vv} {M : Mm} {N : Nn} {a b : Nat} (hd : decode cc pc = .ok (.getfield 210, 3)) (k : Go E RX7 cc nL ret R cl sl Z (pc + 3) L (vr (10, a, 0) :: st) M N) : Go E RX7 cc nL ret R cl sl Z (pc) L (vr (7, a, b) :: st) M N := go_get2 hd f7_210 rfl rfl rfl rfl rfl k
theorem fw7_224 : Cond.fieldLink RX7 224 (TX1 0).1 (TX1 0).2.1 (TX1 0).2.2.1 ∈ BIG := bg1 107 (by decide +kernel) rfl
theorem f7_224 : FLk RX7 224 1 0 := ⟨RX1, TX1, 14, rfl, by decide, rfl, ly1, fw7_224⟩
/-- RoundedSums$Forms.mayOf -/
theorem g7_224 {E : Ev} {cc : ByteArray} {nL : Nat} {ret : Option FieldType} {R : Room} {cl sl : Nat} {Z : Zt} {pc : Nat} {L st : List Vv} {M : Mm} {N : Nn} {a b : Nat} (hd : decode cc pc = .ok (.getfield 224, 3)) (k : Go E RX7 cc nL ret R cl sl Z (pc + 3) L (vr (8, a, 0) :: st) M N) : Go E RX7 cc nL ret R cl sl Z (pc) L (vr (7, a, b) :: st) M N := go_get2 hd f7_224 rfl rfl rfl rfl rfl k
theorem fw7_251 : Cond.fieldLink RX7 251 (TX6 0).1 (TX6 0).2.1 (TX6 0).2.2.1 ∈ BIG := bg2 48 (by decide +kernel) rfl
theorem f7_251 : FLk RX7 251 6 0 := ⟨RX6, TX6, 5, rfl, by decide, rfl, ly6, fw7_251⟩
/-- RoundedSums$Seeker.greatest -/
theorem g7_251 {E : Ev} {cc : ByteArray} {nL : Nat} {ret : Option FieldType} {R : Room} {cl sl : Nat} {Z : Zt} {pc : Nat} {L st : List Vv} {M : Mm} {N : Nn} {a b : Nat} (hd : decode cc pc = .ok (.getfield 251, 3)) (k : Go E RX7 cc nL ret R cl sl Z (pc + 3) L (vl (M (23, a, b) 0) :: st) M N) : Go E RX7 cc nL ret R cl sl Z (pc) L (vr (23, a, b) :: st) M N := go_get1 hd f7_251 rfl rfl rfl k
theorem q7_251 : PLk RX7 251 6 0 (.long) := ⟨RX6, TX6, 5, rfl, by decide, rfl, ly6, fw7_251, ⟨tyX6, tyX6_ok⟩, nmX6, rfl, by decide +kernel⟩
theorem p7_251 {E : Ev} {cc : ByteArray} {nL : Nat} {ret : Option FieldType} {R : Room} {cl sl : Nat} {Z : Zt} {pc : Nat} {L st : List Vv} {M : Mm} {N : Nn} {a b : Nat} {x : Int} (hd : decode cc pc = .ok (.putfield 251, 3)) (k : Go E RX7 cc nL ret R cl sl Z (pc + 3) L (st) (wr M (23, a, b) 0 x) N) : Go E RX7 cc nL ret R cl sl Z (pc) L (vl x :: vr (23, a, b) :: st) M N := go_put1 hd q7_251 rfl rfl rfl k
theorem fw7_253 : Cond.fieldLink RX7 253 (TX6 1).1 (TX6 1).2.1 (TX6 1).2.2.1 ∈ BIG := bg2 50 (by decide +kernel) rfl
theorem f7_253 : FLk RX7 253 6 1 := ⟨RX6, TX6, 5, rfl, by decide, rfl, ly6, fw7_253⟩
/-- RoundedSums$Seeker.best -/
theorem g7_253 {E : Ev} {cc : ByteArray} {nL : Nat} {ret : Option FieldType} {R : Room} {cl sl : Nat} {Z : Zt} {pc : Nat} {L st : List Vv} {M : Mm} {N : Nn} {a b : Nat} (hd : decode cc pc = .ok (.getfield 253, 3)) (k : Go E RX7 cc nL ret R cl sl Z (pc + 3) L (vr (24, 0, 0) :: st) M N) : Go E RX7 cc nL ret R cl sl Z (pc) L (vr (23, a, b) :: st) M N := go_get2 hd f7_253 rfl rfl rfl rfl rfl k
theorem fw7_266 : Cond.fieldLink RX7 266 (TX2 0).1 (TX2 0).2.1 (TX2 0).2.2.1 ∈ BIG := bg2 1 (by decide +kernel) rfl
theorem f7_266 : FLk RX7 266 2 0 := ⟨RX2, TX2, 8, rfl, by decide, rfl, ly2, fw7_266⟩
/-- RoundedSums$Pieces.paper -/
theorem g7_266 {E : Ev} {cc : ByteArray} {nL : Nat} {ret : Option FieldType} {R : Room} {cl sl : Nat} {Z : Zt} {pc : Nat} {L st : List Vv} {M : Mm} {N : Nn} {a b : Nat} (hd : decode cc pc = .ok (.getfield 266, 3)) (k : Go E RX7 cc nL ret R cl sl Z (pc + 3) L (vr (7, 1, 0) :: st) M N) : Go E RX7 cc nL ret R cl sl Z (pc) L (vr (17, a, b) :: st) M N := go_get2 hd f7_266 rfl rfl rfl rfl rfl k
theorem fw7_273 : Cond.fieldLink RX7 273 (TX3 7).1 (TX3 7).2.1 (TX3 7).2.2.1 ∈ BIG := bg1 192 (by decide +kernel) rfl
theorem f7_273 : FLk RX7 273 3 7 := ⟨RX3, TX3, 13, rfl, by decide, rfl, ly3, fw7_273⟩
/-- RoundedSums$Program.needsOf -/
theorem g7_273 {E : Ev} {cc : ByteArray} {nL : Nat} {ret : Option FieldType} {R : Room} {cl sl : Nat} {Z : Zt} {pc : Nat} {L st : List Vv} {M : Mm} {N : Nn} {a b : Nat} (hd : decode cc pc = .ok (.getfield 273, 3)) (k : Go E RX7 cc nL ret R cl sl Z (pc + 3) L (vr (19, a, 7) :: st) M N) : Go E RX7 cc nL ret R cl sl Z (pc) L (vr (18, a, b) :: st) M N := go_get2 hd f7_273 rfl rfl rfl rfl rfl k
theorem fw0_9 : Cond.fieldLink RX0 9 (TX0 0).1 (TX0 0).2.1 (TX0 0).2.2.1 ∈ BIG := bg1 91 (by decide +kernel) rfl
theorem f0_9 : FLk RX0 9 0 0 := ⟨RX0, TX0, 3, rfl, by decide, rfl, ly0, fw0_9⟩
/-- RoundedSums$Form.numbers -/
theorem g0_9 {E : Ev} {cc : ByteArray} {nL : Nat} {ret : Option FieldType} {R : Room} {cl sl : Nat} {Z : Zt} {pc : Nat} {L st : List Vv} {M : Mm} {N : Nn} {a b : Nat} (hd : decode cc pc = .ok (.getfield 9, 3)) (k : Go E RX0 cc nL ret R cl sl Z (pc + 3) L (vr (16, a, b) :: st) M N) : Go E RX0 cc nL ret R cl sl Z (pc) L (vr (15, a, b) :: st) M N := go_get2 hd f0_9 rfl rfl rfl rfl rfl k
theorem fw0_15 : Cond.fieldLink RX0 15 (TX0 2).1 (TX0 2).2.1 (TX0 2).2.2.1 ∈ BIG := bg1 97 (by decide +kernel) rfl
theorem f0_15 : FLk RX0 15 0 2 := ⟨RX0, TX0, 3, rfl, by decide, rfl, ly0, fw0_15⟩
/-- RoundedSums$Form.used -/
theorem g0_15 {E : Ev} {cc : ByteArray} {nL : Nat} {ret : Option FieldType} {R : Room} {cl sl : Nat} {Z : Zt} {pc : Nat} {L st : List Vv} {M : Mm} {N : Nn} {a b : Nat} (hd : decode cc pc = .ok (.getfield 15, 3)) (k : Go E RX0 cc nL ret R cl sl Z (pc + 3) L (vi (M (15, a, b) 2) :: st) M N) : Go E RX0 cc nL ret R cl sl Z (pc) L (vr (15, a, b) :: st) M N := go_get0 hd f0_15 rfl rfl rfl k
theorem q0_15 : PLk RX0 15 0 2 (.int) := ⟨RX0, TX0, 3, rfl, by decide, rfl, ly0, fw0_15, ⟨tyX0, tyX0_ok⟩, nmX0, rfl, by decide +kernel⟩
theorem p0_15 {E : Ev} {cc : ByteArray} {nL : Nat} {ret : Option FieldType} {R : Room} {cl sl : Nat} {Z : Zt} {pc : Nat} {L st : List Vv} {M : Mm} {N : Nn} {a b : Nat} {x : Int} (hd : decode cc pc = .ok (.putfield 15, 3)) (k : Go E RX0 cc nL ret R cl sl Z (pc + 3) L (st) (wr M (15, a, b) 2 x) N) : Go E RX0 cc nL ret R cl sl Z (pc) L (vi x :: vr (15, a, b) :: st) M N := go_put0 hd q0_15 rfl rfl rfl rfl rfl k
theorem fw0_19 : Cond.fieldLink RX0 19 (TX0 1).1 (TX0 1).2.1 (TX0 1).2.2.1 ∈ BIG := bg1 94 (by decide +kernel) rfl
theorem f0_19 : FLk RX0 19 0 1 := ⟨RX0, TX0, 3, rfl, by decide, rfl, ly0, fw0_19⟩
/-- RoundedSums$Form.middle -/
theorem g0_19 {E : Ev} {cc : ByteArray} {nL : Nat} {ret : Option FieldType} {R : Room} {cl sl : Nat} {Z : Zt} {pc : Nat} {L st : List Vv} {M : Mm} {N : Nn} {a b : Nat} (hd : decode cc pc = .ok (.getfield 19, 3)) (k : Go E RX0 cc nL ret R cl sl Z (pc + 3) L (vl (M (15, a, b) 1) :: st) M N) : Go E RX0 cc nL ret R cl sl Z (pc) L (vr (15, a, b) :: st) M N := go_get1 hd f0_19 rfl rfl rfl k
theorem q0_19 : PLk RX0 19 0 1 (.long) := ⟨RX0, TX0, 3, rfl, by decide, rfl, ly0, fw0_19, ⟨tyX0, tyX0_ok⟩, nmX0, rfl, by decide +kernel⟩
theorem p0_19 {E : Ev} {cc : ByteArray} {nL : Nat} {ret : Option FieldType} {R : Room} {cl sl : Nat} {Z : Zt} {pc : Nat} {L st : List Vv} {M : Mm} {N : Nn} {a b : Nat} {x : Int} (hd : decode cc pc = .ok (.putfield 19, 3)) (k : Go E RX0 cc nL ret R cl sl Z (pc + 3) L (st) (wr M (15, a, b) 1 x) N) : Go E RX0 cc nL ret R cl sl Z (pc) L (vl x :: vr (15, a, b) :: st) M N := go_put1 hd q0_19 rfl rfl rfl k
theorem fw1_9 : Cond.fieldLink RX1 9 (TX1 0).1 (TX1 0).2.1 (TX1 0).2.2.1 ∈ BIG := bg1 106 (by decide +kernel) rfl
theorem f1_9 : FLk RX1 9 1 0 := ⟨RX1, TX1, 14, rfl, by decide, rfl, ly1, fw1_9⟩
/-- RoundedSums$Forms.mayOf -/
theorem g1_9 {E : Ev} {cc : ByteArray} {nL : Nat} {ret : Option FieldType} {R : Room} {cl sl : Nat} {Z : Zt} {pc : Nat} {L st : List Vv} {M : Mm} {N : Nn} {a b : Nat} (hd : decode cc pc = .ok (.getfield 9, 3)) (k : Go E RX1 cc nL ret R cl sl Z (pc + 3) L (vr (8, a, 0) :: st) M N) : Go E RX1 cc nL ret R cl sl Z (pc) L (vr (7, a, b) :: st) M N := go_get2 hd f1_9 rfl rfl rfl rfl rfl k
theorem fw1_15 : Cond.fieldLink RX1 15 (TX1 1).1 (TX1 1).2.1 (TX1 1).2.2.1 ∈ BIG := bg1 108 (by decide +kernel) rfl
theorem f1_15 : FLk RX1 15 1 1 := ⟨RX1, TX1, 14, rfl, by decide, rfl, ly1, fw1_15⟩
/-- RoundedSums$Forms.bringer -/
theorem g1_15 {E : Ev} {cc : ByteArray} {nL : Nat} {ret : Option FieldType} {R : Room} {cl sl : Nat} {Z : Zt} {pc : Nat} {L st : List Vv} {M : Mm} {N : Nn} {a b : Nat} (hd : decode cc pc = .ok (.getfield 15, 3)) (k : Go E RX1 cc nL ret R cl sl Z (pc + 3) L (vr (9, a, 0) :: st) M N) : Go E RX1 cc nL ret R cl sl Z (pc) L (vr (7, a, b) :: st) M N := go_get2 hd f1_15 rfl rfl rfl rfl rfl k
theorem fw1_18 : Cond.fieldLink RX1 18 (TX1 2).1 (TX1 2).2.1 (TX1 2).2.2.1 ∈ BIG := bg1 110 (by decide +kernel) rfl
theorem f1_18 : FLk RX1 18 1 2 := ⟨RX1, TX1, 14, rfl, by decide, rfl, ly1, fw1_18⟩
/-- RoundedSums$Forms.broughtBy -/
theorem g1_18 {E : Ev} {cc : ByteArray} {nL : Nat} {ret : Option FieldType} {R : Room} {cl sl : Nat} {Z : Zt} {pc : Nat} {L st : List Vv} {M : Mm} {N : Nn} {a b : Nat} (hd : decode cc pc = .ok (.getfield 18, 3)) (k : Go E RX1 cc nL ret R cl sl Z (pc + 3) L (vr (10, a, 0) :: st) M N) : Go E RX1 cc nL ret R cl sl Z (pc) L (vr (7, a, b) :: st) M N := go_get2 hd f1_18 rfl rfl rfl rfl rfl k
theorem fw1_23 : Cond.fieldLink RX1 23 (TX1 4).1 (TX1 4).2.1 (TX1 4).2.2.1 ∈ BIG := bg1 114 (by decide +kernel) rfl
theorem f1_23 : FLk RX1 23 1 4 := ⟨RX1, TX1, 14, rfl, by decide, rfl, ly1, fw1_23⟩
/-- RoundedSums$Forms.values -/
theorem g1_23 {E : Ev} {cc : ByteArray} {nL : Nat} {ret : Option FieldType} {R : Room} {cl sl : Nat} {Z : Zt} {pc : Nat} {L st : List Vv} {M : Mm} {N : Nn} {a b : Nat} (hd : decode cc pc = .ok (.getfield 23, 3)) (k : Go E RX1 cc nL ret R cl sl Z (pc + 3) L (vr (11, a, 0) :: st) M N) : Go E RX1 cc nL ret R cl sl Z (pc) L (vr (7, a, b) :: st) M N := go_get2 hd f1_23 rfl rfl rfl rfl rfl k
theorem fw1_27 : Cond.fieldLink RX1 27 (TX1 5).1 (TX1 5).2.1 (TX1 5).2.2.1 ∈ BIG := bg1 115 (by decide +kernel) rfl
theorem f1_27 : FLk RX1 27 1 5 := ⟨RX1, TX1, 14, rfl, by decide, rfl, ly1, fw1_27⟩
/-- RoundedSums$Forms.drifts -/
theorem g1_27 {E : Ev} {cc : ByteArray} {nL : Nat} {ret : Option FieldType} {R : Room} {cl sl : Nat} {Z : Zt} {pc : Nat} {L st : List Vv} {M : Mm} {N : Nn} {a b : Nat} (hd : decode cc pc = .ok (.getfield 27, 3)) (k : Go E RX1 cc nL ret R cl sl Z (pc + 3) L (vr (12, a, 0) :: st) M N) : Go E RX1 cc nL ret R cl sl Z (pc) L (vr (7, a, b) :: st) M N := go_get2 hd f1_27 rfl rfl rfl rfl rfl k
theorem fw1_30 : Cond.fieldLink RX1 30 (TX1 6).1 (TX1 6).2.1 (TX1 6).2.2.1 ∈ BIG := bg1 116 (by decide +kernel) rfl
theorem f1_30 : FLk RX1 30 1 6 := ⟨RX1, TX1, 14, rfl, by decide, rfl, ly1, fw1_30⟩
/-- RoundedSums$Forms.operandNumbers -/
theorem g1_30 {E : Ev} {cc : ByteArray} {nL : Nat} {ret : Option FieldType} {R : Room} {cl sl : Nat} {Z : Zt} {pc : Nat} {L st : List Vv} {M : Mm} {N : Nn} {a b : Nat} (hd : decode cc pc = .ok (.getfield 30, 3)) (k : Go E RX1 cc nL ret R cl sl Z (pc + 3) L (vr (13, a, 0) :: st) M N) : Go E RX1 cc nL ret R cl sl Z (pc) L (vr (7, a, b) :: st) M N := go_get2 hd f1_30 rfl rfl rfl rfl rfl k
theorem fw1_34 : Cond.fieldLink RX1 34 (TX1 7).1 (TX1 7).2.1 (TX1 7).2.2.1 ∈ BIG := bg1 117 (by decide +kernel) rfl
theorem f1_34 : FLk RX1 34 1 7 := ⟨RX1, TX1, 14, rfl, by decide, rfl, ly1, fw1_34⟩
/-- RoundedSums$Forms.nil -/
theorem g1_34 {E : Ev} {cc : ByteArray} {nL : Nat} {ret : Option FieldType} {R : Room} {cl sl : Nat} {Z : Zt} {pc : Nat} {L st : List Vv} {M : Mm} {N : Nn} {a b : Nat} (hd : decode cc pc = .ok (.getfield 34, 3)) (k : Go E RX1 cc nL ret R cl sl Z (pc + 3) L (vr (15, a, 34) :: st) M N) : Go E RX1 cc nL ret R cl sl Z (pc) L (vr (7, a, b) :: st) M N := go_get2 hd f1_34 rfl rfl rfl rfl rfl k
theorem fw1_38 : Cond.fieldLink RX1 38 (TX1 8).1 (TX1 8).2.1 (TX1 8).2.2.1 ∈ BIG := bg1 118 (by decide +kernel) rfl
theorem f1_38 : FLk RX1 38 1 8 := ⟨RX1, TX1, 14, rfl, by decide, rfl, ly1, fw1_38⟩
/-- RoundedSums$Forms.test -/
theorem g1_38 {E : Ev} {cc : ByteArray} {nL : Nat} {ret : Option FieldType} {R : Room} {cl sl : Nat} {Z : Zt} {pc : Nat} {L st : List Vv} {M : Mm} {N : Nn} {a b : Nat} (hd : decode cc pc = .ok (.getfield 38, 3)) (k : Go E RX1 cc nL ret R cl sl Z (pc + 3) L (vr (15, a, 35) :: st) M N) : Go E RX1 cc nL ret R cl sl Z (pc) L (vr (7, a, b) :: st) M N := go_get2 hd f1_38 rfl rfl rfl rfl rfl k
theorem fw1_41 : Cond.fieldLink RX1 41 (TX1 9).1 (TX1 9).2.1 (TX1 9).2.2.1 ∈ BIG := bg1 119 (by decide +kernel) rfl
theorem f1_41 : FLk RX1 41 1 9 := ⟨RX1, TX1, 14, rfl, by decide, rfl, ly1, fw1_41⟩
/-- RoundedSums$Forms.testDrift -/
theorem g1_41 {E : Ev} {cc : ByteArray} {nL : Nat} {ret : Option FieldType} {R : Room} {cl sl : Nat} {Z : Zt} {pc : Nat} {L st : List Vv} {M : Mm} {N : Nn} {a b : Nat} (hd : decode cc pc = .ok (.getfield 41, 3)) (k : Go E RX1 cc nL ret R cl sl Z (pc + 3) L (vr (15, a, 36) :: st) M N) : Go E RX1 cc nL ret R cl sl Z (pc) L (vr (7, a, b) :: st) M N := go_get2 hd f1_41 rfl rfl rfl rfl rfl k
theorem fw1_44 : Cond.fieldLink RX1 44 (TX1 10).1 (TX1 10).2.1 (TX1 10).2.2.1 ∈ BIG := bg1 120 (by decide +kernel) rfl
theorem f1_44 : FLk RX1 44 1 10 := ⟨RX1, TX1, 14, rfl, by decide, rfl, ly1, fw1_44⟩
/-- RoundedSums$Forms.up -/
theorem g1_44 {E : Ev} {cc : ByteArray} {nL : Nat} {ret : Option FieldType} {R : Room} {cl sl : Nat} {Z : Zt} {pc : Nat} {L st : List Vv} {M : Mm} {N : Nn} {a b : Nat} (hd : decode cc pc = .ok (.getfield 44, 3)) (k : Go E RX1 cc nL ret R cl sl Z (pc + 3) L (vr (15, a, 37) :: st) M N) : Go E RX1 cc nL ret R cl sl Z (pc) L (vr (7, a, b) :: st) M N := go_get2 hd f1_44 rfl rfl rfl rfl rfl k
theorem fw1_47 : Cond.fieldLink RX1 47 (TX1 11).1 (TX1 11).2.1 (TX1 11).2.2.1 ∈ BIG := bg1 121 (by decide +kernel) rfl
theorem f1_47 : FLk RX1 47 1 11 := ⟨RX1, TX1, 14, rfl, by decide, rfl, ly1, fw1_47⟩
/-- RoundedSums$Forms.down -/
theorem g1_47 {E : Ev} {cc : ByteArray} {nL : Nat} {ret : Option FieldType} {R : Room} {cl sl : Nat} {Z : Zt} {pc : Nat} {L st : List Vv} {M : Mm} {N : Nn} {a b : Nat} (hd : decode cc pc = .ok (.getfield 47, 3)) (k : Go E RX1 cc nL ret R cl sl Z (pc + 3) L (vr (15, a, 38) :: st) M N) : Go E RX1 cc nL ret R cl sl Z (pc) L (vr (7, a, b) :: st) M N := go_get2 hd f1_47 rfl rfl rfl rfl rfl k
theorem fw1_50 : Cond.fieldLink RX1 50 (TX1 12).1 (TX1 12).2.1 (TX1 12).2.2.1 ∈ BIG := bg1 122 (by decide +kernel) rfl
theorem f1_50 : FLk RX1 50 1 12 := ⟨RX1, TX1, 14, rfl, by decide, rfl, ly1, fw1_50⟩
/-- RoundedSums$Forms.candidates -/
theorem g1_50 {E : Ev} {cc : ByteArray} {nL : Nat} {ret : Option FieldType} {R : Room} {cl sl : Nat} {Z : Zt} {pc : Nat} {L st : List Vv} {M : Mm} {N : Nn} {a b : Nat} (hd : decode cc pc = .ok (.getfield 50, 3)) (k : Go E RX1 cc nL ret R cl sl Z (pc + 3) L (vr (14, a, 0) :: st) M N) : Go E RX1 cc nL ret R cl sl Z (pc) L (vr (7, a, b) :: st) M N := go_get2 hd f1_50 rfl rfl rfl rfl rfl k
theorem fw1_53 : Cond.fieldLink RX1 53 (TX1 3).1 (TX1 3).2.1 (TX1 3).2.2.1 ∈ BIG := bg1 112 (by decide +kernel) rfl
theorem f1_53 : FLk RX1 53 1 3 := ⟨RX1, TX1, 14, rfl, by decide, rfl, ly1, fw1_53⟩
/-- RoundedSums$Forms.noises -/
theorem g1_53 {E : Ev} {cc : ByteArray} {nL : Nat} {ret : Option FieldType} {R : Room} {cl sl : Nat} {Z : Zt} {pc : Nat} {L st : List Vv} {M : Mm} {N : Nn} {a b : Nat} (hd : decode cc pc = .ok (.getfield 53, 3)) (k : Go E RX1 cc nL ret R cl sl Z (pc + 3) L (vi (M (7, a, b) 3) :: st) M N) : Go E RX1 cc nL ret R cl sl Z (pc) L (vr (7, a, b) :: st) M N := go_get0 hd f1_53 rfl rfl rfl k
theorem q1_53 : PLk RX1 53 1 3 (.int) := ⟨RX1, TX1, 14, rfl, by decide, rfl, ly1, fw1_53, ⟨tyX1, tyX1_ok⟩, nmX1, rfl, by decide +kernel⟩
theorem p1_53 {E : Ev} {cc : ByteArray} {nL : Nat} {ret : Option FieldType} {R : Room} {cl sl : Nat} {Z : Zt} {pc : Nat} {L st : List Vv} {M : Mm} {N : Nn} {a b : Nat} {x : Int} (hd : decode cc pc = .ok (.putfield 53, 3)) (k : Go E RX1 cc nL ret R cl sl Z (pc + 3) L (st) (wr M (7, a, b) 3 x) N) : Go E RX1 cc nL ret R cl sl Z (pc) L (vi x :: vr (7, a, b) :: st) M N := go_put0 hd q1_53 rfl rfl rfl rfl rfl k
theorem fw1_57 : Cond.fieldLink RX1 57 (TX3 12).1 (TX3 12).2.1 (TX3 12).2.2.1 ∈ BIG := bg1 207 (by decide +kernel) rfl
theorem f1_57 : FLk RX1 57 3 12 := ⟨RX3, TX3, 13, rfl, by decide, rfl, ly3, fw1_57⟩
/-- RoundedSums$Program.inputs -/
theorem g1_57 {E : Ev} {cc : ByteArray} {nL : Nat} {ret : Option FieldType} {R : Room} {cl sl : Nat} {Z : Zt} {pc : Nat} {L st : List Vv} {M : Mm} {N : Nn} {a b : Nat} (hd : decode cc pc = .ok (.getfield 57, 3)) (k : Go E RX1 cc nL ret R cl sl Z (pc + 3) L (vi (M (18, a, b) 12) :: st) M N) : Go E RX1 cc nL ret R cl sl Z (pc) L (vr (18, a, b) :: st) M N := go_get0 hd f1_57 rfl rfl rfl k
theorem q1_57 : PLk RX1 57 3 12 (.int) := ⟨RX3, TX3, 13, rfl, by decide, rfl, ly3, fw1_57, ⟨tyX3, tyX3_ok⟩, nmX3, rfl, by decide +kernel⟩
theorem p1_57 {E : Ev} {cc : ByteArray} {nL : Nat} {ret : Option FieldType} {R : Room} {cl sl : Nat} {Z : Zt} {pc : Nat} {L st : List Vv} {M : Mm} {N : Nn} {a b : Nat} {x : Int} (hd : decode cc pc = .ok (.putfield 57, 3)) (k : Go E RX1 cc nL ret R cl sl Z (pc + 3) L (st) (wr M (18, a, b) 12 x) N) : Go E RX1 cc nL ret R cl sl Z (pc) L (vi x :: vr (18, a, b) :: st) M N := go_put0 hd q1_57 rfl rfl rfl rfl rfl k
theorem fw1_62 : Cond.fieldLink RX1 62 (TX3 10).1 (TX3 10).2.1 (TX3 10).2.2.1 ∈ BIG := bg1 199 (by decide +kernel) rfl
theorem f1_62 : FLk RX1 62 3 10 := ⟨RX3, TX3, 13, rfl, by decide, rfl, ly3, fw1_62⟩
/-- RoundedSums$Program.inputAt -/
theorem g1_62 {E : Ev} {cc : ByteArray} {nL : Nat} {ret : Option FieldType} {R : Room} {cl sl : Nat} {Z : Zt} {pc : Nat} {L st : List Vv} {M : Mm} {N : Nn} {a b : Nat} (hd : decode cc pc = .ok (.getfield 62, 3)) (k : Go E RX1 cc nL ret R cl sl Z (pc + 3) L (vr (19, a, 10) :: st) M N) : Go E RX1 cc nL ret R cl sl Z (pc) L (vr (18, a, b) :: st) M N := go_get2 hd f1_62 rfl rfl rfl rfl rfl k
theorem fw1_69 : Cond.fieldLink RX1 69 (TX3 11).1 (TX3 11).2.1 (TX3 11).2.2.1 ∈ BIG := bg1 204 (by decide +kernel) rfl
theorem f1_69 : FLk RX1 69 3 11 := ⟨RX3, TX3, 13, rfl, by decide, rfl, ly3, fw1_69⟩
/-- RoundedSums$Program.count -/
theorem g1_69 {E : Ev} {cc : ByteArray} {nL : Nat} {ret : Option FieldType} {R : Room} {cl sl : Nat} {Z : Zt} {pc : Nat} {L st : List Vv} {M : Mm} {N : Nn} {a b : Nat} (hd : decode cc pc = .ok (.getfield 69, 3)) (k : Go E RX1 cc nL ret R cl sl Z (pc + 3) L (vi (M (18, a, b) 11) :: st) M N) : Go E RX1 cc nL ret R cl sl Z (pc) L (vr (18, a, b) :: st) M N := go_get0 hd f1_69 rfl rfl rfl k
theorem q1_69 : PLk RX1 69 3 11 (.int) := ⟨RX3, TX3, 13, rfl, by decide, rfl, ly3, fw1_69, ⟨tyX3, tyX3_ok⟩, nmX3, rfl, by decide +kernel⟩
theorem p1_69 {E : Ev} {cc : ByteArray} {nL : Nat} {ret : Option FieldType} {R : Room} {cl sl : Nat} {Z : Zt} {pc : Nat} {L st : List Vv} {M : Mm} {N : Nn} {a b : Nat} {x : Int} (hd : decode cc pc = .ok (.putfield 69, 3)) (k : Go E RX1 cc nL ret R cl sl Z (pc + 3) L (st) (wr M (18, a, b) 11 x) N) : Go E RX1 cc nL ret R cl sl Z (pc) L (vi x :: vr (18, a, b) :: st) M N := go_put0 hd q1_69 rfl rfl rfl rfl rfl k
theorem fw1_72 : Cond.fieldLink RX1 72 (TX3 0).1 (TX3 0).2.1 (TX3 0).2.2.1 ∈ BIG := bg1 169 (by decide +kernel) rfl
theorem f1_72 : FLk RX1 72 3 0 := ⟨RX3, TX3, 13, rfl, by decide, rfl, ly3, fw1_72⟩
/-- RoundedSums$Program.sign -/
theorem g1_72 {E : Ev} {cc : ByteArray} {nL : Nat} {ret : Option FieldType} {R : Room} {cl sl : Nat} {Z : Zt} {pc : Nat} {L st : List Vv} {M : Mm} {N : Nn} {a b : Nat} (hd : decode cc pc = .ok (.getfield 72, 3)) (k : Go E RX1 cc nL ret R cl sl Z (pc + 3) L (vr (19, a, 0) :: st) M N) : Go E RX1 cc nL ret R cl sl Z (pc) L (vr (18, a, b) :: st) M N := go_get2 hd f1_72 rfl rfl rfl rfl rfl k
theorem fw1_85 : Cond.fieldLink RX1 85 (TX3 4).1 (TX3 4).2.1 (TX3 4).2.2.1 ∈ BIG := bg1 184 (by decide +kernel) rfl
theorem f1_85 : FLk RX1 85 3 4 := ⟨RX3, TX3, 13, rfl, by decide, rfl, ly3, fw1_85⟩
/-- RoundedSums$Program.gridOf -/
theorem g1_85 {E : Ev} {cc : ByteArray} {nL : Nat} {ret : Option FieldType} {R : Room} {cl sl : Nat} {Z : Zt} {pc : Nat} {L st : List Vv} {M : Mm} {N : Nn} {a b : Nat} (hd : decode cc pc = .ok (.getfield 85, 3)) (k : Go E RX1 cc nL ret R cl sl Z (pc + 3) L (vr (19, a, 4) :: st) M N) : Go E RX1 cc nL ret R cl sl Z (pc) L (vr (18, a, b) :: st) M N := go_get2 hd f1_85 rfl rfl rfl rfl rfl k
theorem fw1_96 : Cond.fieldLink RX1 96 (TX0 1).1 (TX0 1).2.1 (TX0 1).2.2.1 ∈ BIG := bg1 95 (by decide +kernel) rfl
theorem f1_96 : FLk RX1 96 0 1 := ⟨RX0, TX0, 3, rfl, by decide, rfl, ly0, fw1_96⟩
/-- RoundedSums$Form.middle -/
theorem g1_96 {E : Ev} {cc : ByteArray} {nL : Nat} {ret : Option FieldType} {R : Room} {cl sl : Nat} {Z : Zt} {pc : Nat} {L st : List Vv} {M : Mm} {N : Nn} {a b : Nat} (hd : decode cc pc = .ok (.getfield 96, 3)) (k : Go E RX1 cc nL ret R cl sl Z (pc + 3) L (vl (M (15, a, b) 1) :: st) M N) : Go E RX1 cc nL ret R cl sl Z (pc) L (vr (15, a, b) :: st) M N := go_get1 hd f1_96 rfl rfl rfl k
theorem q1_96 : PLk RX1 96 0 1 (.long) := ⟨RX0, TX0, 3, rfl, by decide, rfl, ly0, fw1_96, ⟨tyX0, tyX0_ok⟩, nmX0, rfl, by decide +kernel⟩
theorem p1_96 {E : Ev} {cc : ByteArray} {nL : Nat} {ret : Option FieldType} {R : Room} {cl sl : Nat} {Z : Zt} {pc : Nat} {L st : List Vv} {M : Mm} {N : Nn} {a b : Nat} {x : Int} (hd : decode cc pc = .ok (.putfield 96, 3)) (k : Go E RX1 cc nL ret R cl sl Z (pc + 3) L (st) (wr M (15, a, b) 1 x) N) : Go E RX1 cc nL ret R cl sl Z (pc) L (vl x :: vr (15, a, b) :: st) M N := go_put1 hd q1_96 rfl rfl rfl k
theorem fw1_104 : Cond.fieldLink RX1 104 (TX0 0).1 (TX0 0).2.1 (TX0 0).2.2.1 ∈ BIG := bg1 92 (by decide +kernel) rfl
theorem f1_104 : FLk RX1 104 0 0 := ⟨RX0, TX0, 3, rfl, by decide, rfl, ly0, fw1_104⟩
/-- RoundedSums$Form.numbers -/
theorem g1_104 {E : Ev} {cc : ByteArray} {nL : Nat} {ret : Option FieldType} {R : Room} {cl sl : Nat} {Z : Zt} {pc : Nat} {L st : List Vv} {M : Mm} {N : Nn} {a b : Nat} (hd : decode cc pc = .ok (.getfield 104, 3)) (k : Go E RX1 cc nL ret R cl sl Z (pc + 3) L (vr (16, a, b) :: st) M N) : Go E RX1 cc nL ret R cl sl Z (pc) L (vr (15, a, b) :: st) M N := go_get2 hd f1_104 rfl rfl rfl rfl rfl k
theorem fw1_130 : Cond.fieldLink RX1 130 (TX3 8).1 (TX3 8).2.1 (TX3 8).2.2.1 ∈ BIG := bg1 195 (by decide +kernel) rfl
theorem f1_130 : FLk RX1 130 3 8 := ⟨RX3, TX3, 13, rfl, by decide, rfl, ly3, fw1_130⟩
/-- RoundedSums$Program.operandVariable -/
theorem g1_130 {E : Ev} {cc : ByteArray} {nL : Nat} {ret : Option FieldType} {R : Room} {cl sl : Nat} {Z : Zt} {pc : Nat} {L st : List Vv} {M : Mm} {N : Nn} {a b : Nat} (hd : decode cc pc = .ok (.getfield 130, 3)) (k : Go E RX1 cc nL ret R cl sl Z (pc + 3) L (vr (19, a, 8) :: st) M N) : Go E RX1 cc nL ret R cl sl Z (pc) L (vr (18, a, b) :: st) M N := go_get2 hd f1_130 rfl rfl rfl rfl rfl k
theorem fw1_133 : Cond.fieldLink RX1 133 (TX3 9).1 (TX3 9).2.1 (TX3 9).2.2.1 ∈ BIG := bg1 197 (by decide +kernel) rfl
theorem f1_133 : FLk RX1 133 3 9 := ⟨RX3, TX3, 13, rfl, by decide, rfl, ly3, fw1_133⟩
/-- RoundedSums$Program.operandNumber -/
theorem g1_133 {E : Ev} {cc : ByteArray} {nL : Nat} {ret : Option FieldType} {R : Room} {cl sl : Nat} {Z : Zt} {pc : Nat} {L st : List Vv} {M : Mm} {N : Nn} {a b : Nat} (hd : decode cc pc = .ok (.getfield 133, 3)) (k : Go E RX1 cc nL ret R cl sl Z (pc + 3) L (vr (19, a, 9) :: st) M N) : Go E RX1 cc nL ret R cl sl Z (pc) L (vr (18, a, b) :: st) M N := go_get2 hd f1_133 rfl rfl rfl rfl rfl k
theorem fw1_140 : Cond.fieldLink RX1 140 (TX3 3).1 (TX3 3).2.1 (TX3 3).2.2.1 ∈ BIG := bg1 181 (by decide +kernel) rfl
theorem f1_140 : FLk RX1 140 3 3 := ⟨RX3, TX3, 13, rfl, by decide, rfl, ly3, fw1_140⟩
/-- RoundedSums$Program.to -/
theorem g1_140 {E : Ev} {cc : ByteArray} {nL : Nat} {ret : Option FieldType} {R : Room} {cl sl : Nat} {Z : Zt} {pc : Nat} {L st : List Vv} {M : Mm} {N : Nn} {a b : Nat} (hd : decode cc pc = .ok (.getfield 140, 3)) (k : Go E RX1 cc nL ret R cl sl Z (pc + 3) L (vr (19, a, 3) :: st) M N) : Go E RX1 cc nL ret R cl sl Z (pc) L (vr (18, a, b) :: st) M N := go_get2 hd f1_140 rfl rfl rfl rfl rfl k
theorem fw1_143 : Cond.fieldLink RX1 143 (TX3 2).1 (TX3 2).2.1 (TX3 2).2.2.1 ∈ BIG := bg1 176 (by decide +kernel) rfl
theorem f1_143 : FLk RX1 143 3 2 := ⟨RX3, TX3, 13, rfl, by decide, rfl, ly3, fw1_143⟩
/-- RoundedSums$Program.from -/
theorem g1_143 {E : Ev} {cc : ByteArray} {nL : Nat} {ret : Option FieldType} {R : Room} {cl sl : Nat} {Z : Zt} {pc : Nat} {L st : List Vv} {M : Mm} {N : Nn} {a b : Nat} (hd : decode cc pc = .ok (.getfield 143, 3)) (k : Go E RX1 cc nL ret R cl sl Z (pc + 3) L (vr (19, a, 2) :: st) M N) : Go E RX1 cc nL ret R cl sl Z (pc) L (vr (18, a, b) :: st) M N := go_get2 hd f1_143 rfl rfl rfl rfl rfl k
theorem fw1_168 : Cond.fieldLink RX1 168 (TX1 13).1 (TX1 13).2.1 (TX1 13).2.2.1 ∈ BIG := bg1 123 (by decide +kernel) rfl
theorem f1_168 : FLk RX1 168 1 13 := ⟨RX1, TX1, 14, rfl, by decide, rfl, ly1, fw1_168⟩
/-- RoundedSums$Forms.candidateCount -/
theorem g1_168 {E : Ev} {cc : ByteArray} {nL : Nat} {ret : Option FieldType} {R : Room} {cl sl : Nat} {Z : Zt} {pc : Nat} {L st : List Vv} {M : Mm} {N : Nn} {a b : Nat} (hd : decode cc pc = .ok (.getfield 168, 3)) (k : Go E RX1 cc nL ret R cl sl Z (pc + 3) L (vi (M (7, a, b) 13) :: st) M N) : Go E RX1 cc nL ret R cl sl Z (pc) L (vr (7, a, b) :: st) M N := go_get0 hd f1_168 rfl rfl rfl k
theorem q1_168 : PLk RX1 168 1 13 (.int) := ⟨RX1, TX1, 14, rfl, by decide, rfl, ly1, fw1_168, ⟨tyX1, tyX1_ok⟩, nmX1, rfl, by decide +kernel⟩
theorem p1_168 {E : Ev} {cc : ByteArray} {nL : Nat} {ret : Option FieldType} {R : Room} {cl sl : Nat} {Z : Zt} {pc : Nat} {L st : List Vv} {M : Mm} {N : Nn} {a b : Nat} {x : Int} (hd : decode cc pc = .ok (.putfield 168, 3)) (k : Go E RX1 cc nL ret R cl sl Z (pc + 3) L (st) (wr M (7, a, b) 13 x) N) : Go E RX1 cc nL ret R cl sl Z (pc) L (vi x :: vr (7, a, b) :: st) M N := go_put0 hd q1_168 rfl rfl rfl rfl rfl k
theorem fw2_12 : Cond.fieldLink RX2 12 (TX2 0).1 (TX2 0).2.1 (TX2 0).2.2.1 ∈ BIG := bg2 0 (by decide +kernel) rfl
theorem f2_12 : FLk RX2 12 2 0 := ⟨RX2, TX2, 8, rfl, by decide, rfl, ly2, fw2_12⟩
/-- RoundedSums$Pieces.paper -/
theorem g2_12 {E : Ev} {cc : ByteArray} {nL : Nat} {ret : Option FieldType} {R : Room} {cl sl : Nat} {Z : Zt} {pc : Nat} {L st : List Vv} {M : Mm} {N : Nn} {a b : Nat} (hd : decode cc pc = .ok (.getfield 12, 3)) (k : Go E RX2 cc nL ret R cl sl Z (pc + 3) L (vr (7, 1, 0) :: st) M N) : Go E RX2 cc nL ret R cl sl Z (pc) L (vr (17, a, b) :: st) M N := go_get2 hd f2_12 rfl rfl rfl rfl rfl k
theorem fw2_21 : Cond.fieldLink RX2 21 (TX2 1).1 (TX2 1).2.1 (TX2 1).2.2.1 ∈ BIG := bg2 2 (by decide +kernel) rfl
theorem f2_21 : FLk RX2 21 2 1 := ⟨RX2, TX2, 8, rfl, by decide, rfl, ly2, fw2_21⟩
/-- RoundedSums$Pieces.ranged -/
theorem g2_21 {E : Ev} {cc : ByteArray} {nL : Nat} {ret : Option FieldType} {R : Room} {cl sl : Nat} {Z : Zt} {pc : Nat} {L st : List Vv} {M : Mm} {N : Nn} {a b : Nat} (hd : decode cc pc = .ok (.getfield 21, 3)) (k : Go E RX2 cc nL ret R cl sl Z (pc + 3) L (vr (18, 0, 0) :: st) M N) : Go E RX2 cc nL ret R cl sl Z (pc) L (vr (17, a, b) :: st) M N := go_get2 hd f2_21 rfl rfl rfl rfl rfl k
theorem fw2_25 : Cond.fieldLink RX2 25 (TX2 2).1 (TX2 2).2.1 (TX2 2).2.2.1 ∈ BIG := bg2 3 (by decide +kernel) rfl
theorem f2_25 : FLk RX2 25 2 2 := ⟨RX2, TX2, 8, rfl, by decide, rfl, ly2, fw2_25⟩
/-- RoundedSums$Pieces.from -/
theorem g2_25 {E : Ev} {cc : ByteArray} {nL : Nat} {ret : Option FieldType} {R : Room} {cl sl : Nat} {Z : Zt} {pc : Nat} {L st : List Vv} {M : Mm} {N : Nn} {a b : Nat} (hd : decode cc pc = .ok (.getfield 25, 3)) (k : Go E RX2 cc nL ret R cl sl Z (pc + 3) L (vr (20, 0, 0) :: st) M N) : Go E RX2 cc nL ret R cl sl Z (pc) L (vr (17, a, b) :: st) M N := go_get2 hd f2_25 rfl rfl rfl rfl rfl k
theorem fw2_29 : Cond.fieldLink RX2 29 (TX2 3).1 (TX2 3).2.1 (TX2 3).2.2.1 ∈ BIG := bg2 4 (by decide +kernel) rfl
theorem f2_29 : FLk RX2 29 2 3 := ⟨RX2, TX2, 8, rfl, by decide, rfl, ly2, fw2_29⟩
/-- RoundedSums$Pieces.to -/
theorem g2_29 {E : Ev} {cc : ByteArray} {nL : Nat} {ret : Option FieldType} {R : Room} {cl sl : Nat} {Z : Zt} {pc : Nat} {L st : List Vv} {M : Mm} {N : Nn} {a b : Nat} (hd : decode cc pc = .ok (.getfield 29, 3)) (k : Go E RX2 cc nL ret R cl sl Z (pc + 3) L (vr (21, 0, 0) :: st) M N) : Go E RX2 cc nL ret R cl sl Z (pc) L (vr (17, a, b) :: st) M N := go_get2 hd f2_29 rfl rfl rfl rfl rfl k
theorem fw2_32 : Cond.fieldLink RX2 32 (TX2 4).1 (TX2 4).2.1 (TX2 4).2.2.1 ∈ BIG := bg2 5 (by decide +kernel) rfl
theorem f2_32 : FLk RX2 32 2 4 := ⟨RX2, TX2, 8, rfl, by decide, rfl, ly2, fw2_32⟩
/-- RoundedSums$Pieces.boundOf -/
theorem g2_32 {E : Ev} {cc : ByteArray} {nL : Nat} {ret : Option FieldType} {R : Room} {cl sl : Nat} {Z : Zt} {pc : Nat} {L st : List Vv} {M : Mm} {N : Nn} {a b : Nat} (hd : decode cc pc = .ok (.getfield 32, 3)) (k : Go E RX2 cc nL ret R cl sl Z (pc + 3) L (vr (22, 0, 0) :: st) M N) : Go E RX2 cc nL ret R cl sl Z (pc) L (vr (17, a, b) :: st) M N := go_get2 hd f2_32 rfl rfl rfl rfl rfl k
theorem fw2_40 : Cond.fieldLink RX2 40 (TX2 7).1 (TX2 7).2.1 (TX2 7).2.2.1 ∈ BIG := bg2 8 (by decide +kernel) rfl
theorem f2_40 : FLk RX2 40 2 7 := ⟨RX2, TX2, 8, rfl, by decide, rfl, ly2, fw2_40⟩
/-- RoundedSums$Pieces.asked -/
theorem g2_40 {E : Ev} {cc : ByteArray} {nL : Nat} {ret : Option FieldType} {R : Room} {cl sl : Nat} {Z : Zt} {pc : Nat} {L st : List Vv} {M : Mm} {N : Nn} {a b : Nat} (hd : decode cc pc = .ok (.getfield 40, 3)) (k : Go E RX2 cc nL ret R cl sl Z (pc + 3) L (vi (M (17, a, b) 7) :: st) M N) : Go E RX2 cc nL ret R cl sl Z (pc) L (vr (17, a, b) :: st) M N := go_get0 hd f2_40 rfl rfl rfl k
theorem q2_40 : PLk RX2 40 2 7 (.int) := ⟨RX2, TX2, 8, rfl, by decide, rfl, ly2, fw2_40, ⟨tyX2, tyX2_ok⟩, nmX2, rfl, by decide +kernel⟩
theorem p2_40 {E : Ev} {cc : ByteArray} {nL : Nat} {ret : Option FieldType} {R : Room} {cl sl : Nat} {Z : Zt} {pc : Nat} {L st : List Vv} {M : Mm} {N : Nn} {a b : Nat} {x : Int} (hd : decode cc pc = .ok (.putfield 40, 3)) (k : Go E RX2 cc nL ret R cl sl Z (pc + 3) L (st) (wr M (17, a, b) 7 x) N) : Go E RX2 cc nL ret R cl sl Z (pc) L (vi x :: vr (17, a, b) :: st) M N := go_put0 hd q2_40 rfl rfl rfl rfl rfl k
theorem fw2_44 : Cond.fieldLink RX2 44 (TX2 5).1 (TX2 5).2.1 (TX2 5).2.2.1 ∈ BIG := bg2 6 (by decide +kernel) rfl
theorem f2_44 : FLk RX2 44 2 5 := ⟨RX2, TX2, 8, rfl, by decide, rfl, ly2, fw2_44⟩
/-- RoundedSums$Pieces.made -/
theorem g2_44 {E : Ev} {cc : ByteArray} {nL : Nat} {ret : Option FieldType} {R : Room} {cl sl : Nat} {Z : Zt} {pc : Nat} {L st : List Vv} {M : Mm} {N : Nn} {a b : Nat} (hd : decode cc pc = .ok (.getfield 44, 3)) (k : Go E RX2 cc nL ret R cl sl Z (pc + 3) L (vi (M (17, a, b) 5) :: st) M N) : Go E RX2 cc nL ret R cl sl Z (pc) L (vr (17, a, b) :: st) M N := go_get0 hd f2_44 rfl rfl rfl k
theorem q2_44 : PLk RX2 44 2 5 (.int) := ⟨RX2, TX2, 8, rfl, by decide, rfl, ly2, fw2_44, ⟨tyX2, tyX2_ok⟩, nmX2, rfl, by decide +kernel⟩
theorem p2_44 {E : Ev} {cc : ByteArray} {nL : Nat} {ret : Option FieldType} {R : Room} {cl sl : Nat} {Z : Zt} {pc : Nat} {L st : List Vv} {M : Mm} {N : Nn} {a b : Nat} {x : Int} (hd : decode cc pc = .ok (.putfield 44, 3)) (k : Go E RX2 cc nL ret R cl sl Z (pc + 3) L (st) (wr M (17, a, b) 5 x) N) : Go E RX2 cc nL ret R cl sl Z (pc) L (vi x :: vr (17, a, b) :: st) M N := go_put0 hd q2_44 rfl rfl rfl rfl rfl k
theorem fw2_47 : Cond.fieldLink RX2 47 (TX2 6).1 (TX2 6).2.1 (TX2 6).2.2.1 ∈ BIG := bg2 7 (by decide +kernel) rfl
theorem f2_47 : FLk RX2 47 2 6 := ⟨RX2, TX2, 8, rfl, by decide, rfl, ly2, fw2_47⟩
/-- RoundedSums$Pieces.splitCount -/
theorem g2_47 {E : Ev} {cc : ByteArray} {nL : Nat} {ret : Option FieldType} {R : Room} {cl sl : Nat} {Z : Zt} {pc : Nat} {L st : List Vv} {M : Mm} {N : Nn} {a b : Nat} (hd : decode cc pc = .ok (.getfield 47, 3)) (k : Go E RX2 cc nL ret R cl sl Z (pc + 3) L (vi (M (17, a, b) 6) :: st) M N) : Go E RX2 cc nL ret R cl sl Z (pc) L (vr (17, a, b) :: st) M N := go_get0 hd f2_47 rfl rfl rfl k
theorem q2_47 : PLk RX2 47 2 6 (.int) := ⟨RX2, TX2, 8, rfl, by decide, rfl, ly2, fw2_47, ⟨tyX2, tyX2_ok⟩, nmX2, rfl, by decide +kernel⟩
theorem p2_47 {E : Ev} {cc : ByteArray} {nL : Nat} {ret : Option FieldType} {R : Room} {cl sl : Nat} {Z : Zt} {pc : Nat} {L st : List Vv} {M : Mm} {N : Nn} {a b : Nat} {x : Int} (hd : decode cc pc = .ok (.putfield 47, 3)) (k : Go E RX2 cc nL ret R cl sl Z (pc + 3) L (st) (wr M (17, a, b) 6 x) N) : Go E RX2 cc nL ret R cl sl Z (pc) L (vi x :: vr (17, a, b) :: st) M N := go_put0 hd q2_47 rfl rfl rfl rfl rfl k
theorem fw2_50 : Cond.fieldLink RX2 50 (TX3 12).1 (TX3 12).2.1 (TX3 12).2.2.1 ∈ BIG := bg1 209 (by decide +kernel) rfl
theorem f2_50 : FLk RX2 50 3 12 := ⟨RX3, TX3, 13, rfl, by decide, rfl, ly3, fw2_50⟩
/-- RoundedSums$Program.inputs -/
theorem g2_50 {E : Ev} {cc : ByteArray} {nL : Nat} {ret : Option FieldType} {R : Room} {cl sl : Nat} {Z : Zt} {pc : Nat} {L st : List Vv} {M : Mm} {N : Nn} {a b : Nat} (hd : decode cc pc = .ok (.getfield 50, 3)) (k : Go E RX2 cc nL ret R cl sl Z (pc + 3) L (vi (M (18, a, b) 12) :: st) M N) : Go E RX2 cc nL ret R cl sl Z (pc) L (vr (18, a, b) :: st) M N := go_get0 hd f2_50 rfl rfl rfl k
theorem q2_50 : PLk RX2 50 3 12 (.int) := ⟨RX3, TX3, 13, rfl, by decide, rfl, ly3, fw2_50, ⟨tyX3, tyX3_ok⟩, nmX3, rfl, by decide +kernel⟩
theorem p2_50 {E : Ev} {cc : ByteArray} {nL : Nat} {ret : Option FieldType} {R : Room} {cl sl : Nat} {Z : Zt} {pc : Nat} {L st : List Vv} {M : Mm} {N : Nn} {a b : Nat} {x : Int} (hd : decode cc pc = .ok (.putfield 50, 3)) (k : Go E RX2 cc nL ret R cl sl Z (pc + 3) L (st) (wr M (18, a, b) 12 x) N) : Go E RX2 cc nL ret R cl sl Z (pc) L (vi x :: vr (18, a, b) :: st) M N := go_put0 hd q2_50 rfl rfl rfl rfl rfl k
theorem fw2_53 : Cond.fieldLink RX2 53 (TX3 2).1 (TX3 2).2.1 (TX3 2).2.2.1 ∈ BIG := bg1 173 (by decide +kernel) rfl
theorem f2_53 : FLk RX2 53 3 2 := ⟨RX3, TX3, 13, rfl, by decide, rfl, ly3, fw2_53⟩
/-- RoundedSums$Program.from -/
theorem g2_53 {E : Ev} {cc : ByteArray} {nL : Nat} {ret : Option FieldType} {R : Room} {cl sl : Nat} {Z : Zt} {pc : Nat} {L st : List Vv} {M : Mm} {N : Nn} {a b : Nat} (hd : decode cc pc = .ok (.getfield 53, 3)) (k : Go E RX2 cc nL ret R cl sl Z (pc + 3) L (vr (19, a, 2) :: st) M N) : Go E RX2 cc nL ret R cl sl Z (pc) L (vr (18, a, b) :: st) M N := go_get2 hd f2_53 rfl rfl rfl rfl rfl k
theorem fw2_54 : Cond.fieldLink RX2 54 (TX3 10).1 (TX3 10).2.1 (TX3 10).2.2.1 ∈ BIG := bg1 200 (by decide +kernel) rfl
theorem f2_54 : FLk RX2 54 3 10 := ⟨RX3, TX3, 13, rfl, by decide, rfl, ly3, fw2_54⟩
/-- RoundedSums$Program.inputAt -/
theorem g2_54 {E : Ev} {cc : ByteArray} {nL : Nat} {ret : Option FieldType} {R : Room} {cl sl : Nat} {Z : Zt} {pc : Nat} {L st : List Vv} {M : Mm} {N : Nn} {a b : Nat} (hd : decode cc pc = .ok (.getfield 54, 3)) (k : Go E RX2 cc nL ret R cl sl Z (pc + 3) L (vr (19, a, 10) :: st) M N) : Go E RX2 cc nL ret R cl sl Z (pc) L (vr (18, a, b) :: st) M N := go_get2 hd f2_54 rfl rfl rfl rfl rfl k
theorem fw2_57 : Cond.fieldLink RX2 57 (TX3 3).1 (TX3 3).2.1 (TX3 3).2.2.1 ∈ BIG := bg1 178 (by decide +kernel) rfl
theorem f2_57 : FLk RX2 57 3 3 := ⟨RX3, TX3, 13, rfl, by decide, rfl, ly3, fw2_57⟩
/-- RoundedSums$Program.to -/
theorem g2_57 {E : Ev} {cc : ByteArray} {nL : Nat} {ret : Option FieldType} {R : Room} {cl sl : Nat} {Z : Zt} {pc : Nat} {L st : List Vv} {M : Mm} {N : Nn} {a b : Nat} (hd : decode cc pc = .ok (.getfield 57, 3)) (k : Go E RX2 cc nL ret R cl sl Z (pc + 3) L (vr (19, a, 3) :: st) M N) : Go E RX2 cc nL ret R cl sl Z (pc) L (vr (18, a, b) :: st) M N := go_get2 hd f2_57 rfl rfl rfl rfl rfl k
theorem fw2_81 : Cond.fieldLink RX2 81 (TX3 7).1 (TX3 7).2.1 (TX3 7).2.2.1 ∈ BIG := bg1 191 (by decide +kernel) rfl
theorem f2_81 : FLk RX2 81 3 7 := ⟨RX3, TX3, 13, rfl, by decide, rfl, ly3, fw2_81⟩
/-- RoundedSums$Program.needsOf -/
theorem g2_81 {E : Ev} {cc : ByteArray} {nL : Nat} {ret : Option FieldType} {R : Room} {cl sl : Nat} {Z : Zt} {pc : Nat} {L st : List Vv} {M : Mm} {N : Nn} {a b : Nat} (hd : decode cc pc = .ok (.getfield 81, 3)) (k : Go E RX2 cc nL ret R cl sl Z (pc + 3) L (vr (19, a, 7) :: st) M N) : Go E RX2 cc nL ret R cl sl Z (pc) L (vr (18, a, b) :: st) M N := go_get2 hd f2_81 rfl rfl rfl rfl rfl k
theorem fw3_9 : Cond.fieldLink RX3 9 (TX3 0).1 (TX3 0).2.1 (TX3 0).2.2.1 ∈ BIG := bg1 167 (by decide +kernel) rfl
theorem f3_9 : FLk RX3 9 3 0 := ⟨RX3, TX3, 13, rfl, by decide, rfl, ly3, fw3_9⟩
/-- RoundedSums$Program.sign -/
theorem g3_9 {E : Ev} {cc : ByteArray} {nL : Nat} {ret : Option FieldType} {R : Room} {cl sl : Nat} {Z : Zt} {pc : Nat} {L st : List Vv} {M : Mm} {N : Nn} {a b : Nat} (hd : decode cc pc = .ok (.getfield 9, 3)) (k : Go E RX3 cc nL ret R cl sl Z (pc + 3) L (vr (19, a, 0) :: st) M N) : Go E RX3 cc nL ret R cl sl Z (pc) L (vr (18, a, b) :: st) M N := go_get2 hd f3_9 rfl rfl rfl rfl rfl k
theorem fw3_15 : Cond.fieldLink RX3 15 (TX3 1).1 (TX3 1).2.1 (TX3 1).2.2.1 ∈ BIG := bg1 171 (by decide +kernel) rfl
theorem f3_15 : FLk RX3 15 3 1 := ⟨RX3, TX3, 13, rfl, by decide, rfl, ly3, fw3_15⟩
/-- RoundedSums$Program.nameOf -/
theorem g3_15 {E : Ev} {cc : ByteArray} {nL : Nat} {ret : Option FieldType} {R : Room} {cl sl : Nat} {Z : Zt} {pc : Nat} {L st : List Vv} {M : Mm} {N : Nn} {a b : Nat} (hd : decode cc pc = .ok (.getfield 15, 3)) (k : Go E RX3 cc nL ret R cl sl Z (pc + 3) L (vr (19, a, 1) :: st) M N) : Go E RX3 cc nL ret R cl sl Z (pc) L (vr (18, a, b) :: st) M N := go_get2 hd f3_15 rfl rfl rfl rfl rfl k
theorem fw3_18 : Cond.fieldLink RX3 18 (TX3 2).1 (TX3 2).2.1 (TX3 2).2.2.1 ∈ BIG := bg1 172 (by decide +kernel) rfl
theorem f3_18 : FLk RX3 18 3 2 := ⟨RX3, TX3, 13, rfl, by decide, rfl, ly3, fw3_18⟩
/-- RoundedSums$Program.from -/
theorem g3_18 {E : Ev} {cc : ByteArray} {nL : Nat} {ret : Option FieldType} {R : Room} {cl sl : Nat} {Z : Zt} {pc : Nat} {L st : List Vv} {M : Mm} {N : Nn} {a b : Nat} (hd : decode cc pc = .ok (.getfield 18, 3)) (k : Go E RX3 cc nL ret R cl sl Z (pc + 3) L (vr (19, a, 2) :: st) M N) : Go E RX3 cc nL ret R cl sl Z (pc) L (vr (18, a, b) :: st) M N := go_get2 hd f3_18 rfl rfl rfl rfl rfl k
theorem fw3_21 : Cond.fieldLink RX3 21 (TX3 3).1 (TX3 3).2.1 (TX3 3).2.2.1 ∈ BIG := bg1 177 (by decide +kernel) rfl
theorem f3_21 : FLk RX3 21 3 3 := ⟨RX3, TX3, 13, rfl, by decide, rfl, ly3, fw3_21⟩
/-- RoundedSums$Program.to -/
theorem g3_21 {E : Ev} {cc : ByteArray} {nL : Nat} {ret : Option FieldType} {R : Room} {cl sl : Nat} {Z : Zt} {pc : Nat} {L st : List Vv} {M : Mm} {N : Nn} {a b : Nat} (hd : decode cc pc = .ok (.getfield 21, 3)) (k : Go E RX3 cc nL ret R cl sl Z (pc + 3) L (vr (19, a, 3) :: st) M N) : Go E RX3 cc nL ret R cl sl Z (pc) L (vr (18, a, b) :: st) M N := go_get2 hd f3_21 rfl rfl rfl rfl rfl k
theorem fw3_24 : Cond.fieldLink RX3 24 (TX3 4).1 (TX3 4).2.1 (TX3 4).2.2.1 ∈ BIG := bg1 182 (by decide +kernel) rfl
theorem f3_24 : FLk RX3 24 3 4 := ⟨RX3, TX3, 13, rfl, by decide, rfl, ly3, fw3_24⟩
/-- RoundedSums$Program.gridOf -/
theorem g3_24 {E : Ev} {cc : ByteArray} {nL : Nat} {ret : Option FieldType} {R : Room} {cl sl : Nat} {Z : Zt} {pc : Nat} {L st : List Vv} {M : Mm} {N : Nn} {a b : Nat} (hd : decode cc pc = .ok (.getfield 24, 3)) (k : Go E RX3 cc nL ret R cl sl Z (pc + 3) L (vr (19, a, 4) :: st) M N) : Go E RX3 cc nL ret R cl sl Z (pc) L (vr (18, a, b) :: st) M N := go_get2 hd f3_24 rfl rfl rfl rfl rfl k
theorem fw3_27 : Cond.fieldLink RX3 27 (TX3 5).1 (TX3 5).2.1 (TX3 5).2.2.1 ∈ BIG := bg1 186 (by decide +kernel) rfl
theorem f3_27 : FLk RX3 27 3 5 := ⟨RX3, TX3, 13, rfl, by decide, rfl, ly3, fw3_27⟩
/-- RoundedSums$Program.fineOf -/
theorem g3_27 {E : Ev} {cc : ByteArray} {nL : Nat} {ret : Option FieldType} {R : Room} {cl sl : Nat} {Z : Zt} {pc : Nat} {L st : List Vv} {M : Mm} {N : Nn} {a b : Nat} (hd : decode cc pc = .ok (.getfield 27, 3)) (k : Go E RX3 cc nL ret R cl sl Z (pc + 3) L (vr (19, a, 5) :: st) M N) : Go E RX3 cc nL ret R cl sl Z (pc) L (vr (18, a, b) :: st) M N := go_get2 hd f3_27 rfl rfl rfl rfl rfl k
theorem fw3_30 : Cond.fieldLink RX3 30 (TX3 6).1 (TX3 6).2.1 (TX3 6).2.2.1 ∈ BIG := bg1 188 (by decide +kernel) rfl
theorem f3_30 : FLk RX3 30 3 6 := ⟨RX3, TX3, 13, rfl, by decide, rfl, ly3, fw3_30⟩
/-- RoundedSums$Program.weightOf -/
theorem g3_30 {E : Ev} {cc : ByteArray} {nL : Nat} {ret : Option FieldType} {R : Room} {cl sl : Nat} {Z : Zt} {pc : Nat} {L st : List Vv} {M : Mm} {N : Nn} {a b : Nat} (hd : decode cc pc = .ok (.getfield 30, 3)) (k : Go E RX3 cc nL ret R cl sl Z (pc + 3) L (vr (19, a, 6) :: st) M N) : Go E RX3 cc nL ret R cl sl Z (pc) L (vr (18, a, b) :: st) M N := go_get2 hd f3_30 rfl rfl rfl rfl rfl k
theorem fw3_34 : Cond.fieldLink RX3 34 (TX3 7).1 (TX3 7).2.1 (TX3 7).2.2.1 ∈ BIG := bg1 190 (by decide +kernel) rfl
theorem f3_34 : FLk RX3 34 3 7 := ⟨RX3, TX3, 13, rfl, by decide, rfl, ly3, fw3_34⟩
/-- RoundedSums$Program.needsOf -/
theorem g3_34 {E : Ev} {cc : ByteArray} {nL : Nat} {ret : Option FieldType} {R : Room} {cl sl : Nat} {Z : Zt} {pc : Nat} {L st : List Vv} {M : Mm} {N : Nn} {a b : Nat} (hd : decode cc pc = .ok (.getfield 34, 3)) (k : Go E RX3 cc nL ret R cl sl Z (pc + 3) L (vr (19, a, 7) :: st) M N) : Go E RX3 cc nL ret R cl sl Z (pc) L (vr (18, a, b) :: st) M N := go_get2 hd f3_34 rfl rfl rfl rfl rfl k
theorem fw3_37 : Cond.fieldLink RX3 37 (TX3 8).1 (TX3 8).2.1 (TX3 8).2.2.1 ∈ BIG := bg1 193 (by decide +kernel) rfl
theorem f3_37 : FLk RX3 37 3 8 := ⟨RX3, TX3, 13, rfl, by decide, rfl, ly3, fw3_37⟩
/-- RoundedSums$Program.operandVariable -/
theorem g3_37 {E : Ev} {cc : ByteArray} {nL : Nat} {ret : Option FieldType} {R : Room} {cl sl : Nat} {Z : Zt} {pc : Nat} {L st : List Vv} {M : Mm} {N : Nn} {a b : Nat} (hd : decode cc pc = .ok (.getfield 37, 3)) (k : Go E RX3 cc nL ret R cl sl Z (pc + 3) L (vr (19, a, 8) :: st) M N) : Go E RX3 cc nL ret R cl sl Z (pc) L (vr (18, a, b) :: st) M N := go_get2 hd f3_37 rfl rfl rfl rfl rfl k
theorem fw3_40 : Cond.fieldLink RX3 40 (TX3 9).1 (TX3 9).2.1 (TX3 9).2.2.1 ∈ BIG := bg1 196 (by decide +kernel) rfl
theorem f3_40 : FLk RX3 40 3 9 := ⟨RX3, TX3, 13, rfl, by decide, rfl, ly3, fw3_40⟩
/-- RoundedSums$Program.operandNumber -/
theorem g3_40 {E : Ev} {cc : ByteArray} {nL : Nat} {ret : Option FieldType} {R : Room} {cl sl : Nat} {Z : Zt} {pc : Nat} {L st : List Vv} {M : Mm} {N : Nn} {a b : Nat} (hd : decode cc pc = .ok (.getfield 40, 3)) (k : Go E RX3 cc nL ret R cl sl Z (pc + 3) L (vr (19, a, 9) :: st) M N) : Go E RX3 cc nL ret R cl sl Z (pc) L (vr (18, a, b) :: st) M N := go_get2 hd f3_40 rfl rfl rfl rfl rfl k
theorem fw3_43 : Cond.fieldLink RX3 43 (TX3 10).1 (TX3 10).2.1 (TX3 10).2.2.1 ∈ BIG := bg1 198 (by decide +kernel) rfl
theorem f3_43 : FLk RX3 43 3 10 := ⟨RX3, TX3, 13, rfl, by decide, rfl, ly3, fw3_43⟩
/-- RoundedSums$Program.inputAt -/
theorem g3_43 {E : Ev} {cc : ByteArray} {nL : Nat} {ret : Option FieldType} {R : Room} {cl sl : Nat} {Z : Zt} {pc : Nat} {L st : List Vv} {M : Mm} {N : Nn} {a b : Nat} (hd : decode cc pc = .ok (.getfield 43, 3)) (k : Go E RX3 cc nL ret R cl sl Z (pc + 3) L (vr (19, a, 10) :: st) M N) : Go E RX3 cc nL ret R cl sl Z (pc) L (vr (18, a, b) :: st) M N := go_get2 hd f3_43 rfl rfl rfl rfl rfl k
theorem fw3_52 : Cond.fieldLink RX3 52 (TX3 11).1 (TX3 11).2.1 (TX3 11).2.2.1 ∈ BIG := bg1 205 (by decide +kernel) rfl
theorem f3_52 : FLk RX3 52 3 11 := ⟨RX3, TX3, 13, rfl, by decide, rfl, ly3, fw3_52⟩
/-- RoundedSums$Program.count -/
theorem g3_52 {E : Ev} {cc : ByteArray} {nL : Nat} {ret : Option FieldType} {R : Room} {cl sl : Nat} {Z : Zt} {pc : Nat} {L st : List Vv} {M : Mm} {N : Nn} {a b : Nat} (hd : decode cc pc = .ok (.getfield 52, 3)) (k : Go E RX3 cc nL ret R cl sl Z (pc + 3) L (vi (M (18, a, b) 11) :: st) M N) : Go E RX3 cc nL ret R cl sl Z (pc) L (vr (18, a, b) :: st) M N := go_get0 hd f3_52 rfl rfl rfl k
theorem q3_52 : PLk RX3 52 3 11 (.int) := ⟨RX3, TX3, 13, rfl, by decide, rfl, ly3, fw3_52, ⟨tyX3, tyX3_ok⟩, nmX3, rfl, by decide +kernel⟩
theorem p3_52 {E : Ev} {cc : ByteArray} {nL : Nat} {ret : Option FieldType} {R : Room} {cl sl : Nat} {Z : Zt} {pc : Nat} {L st : List Vv} {M : Mm} {N : Nn} {a b : Nat} {x : Int} (hd : decode cc pc = .ok (.putfield 52, 3)) (k : Go E RX3 cc nL ret R cl sl Z (pc + 3) L (st) (wr M (18, a, b) 11 x) N) : Go E RX3 cc nL ret R cl sl Z (pc) L (vi x :: vr (18, a, b) :: st) M N := go_put0 hd q3_52 rfl rfl rfl rfl rfl k
theorem fw3_56 : Cond.fieldLink RX3 56 (TX3 12).1 (TX3 12).2.1 (TX3 12).2.2.1 ∈ BIG := bg1 210 (by decide +kernel) rfl
theorem f3_56 : FLk RX3 56 3 12 := ⟨RX3, TX3, 13, rfl, by decide, rfl, ly3, fw3_56⟩
/-- RoundedSums$Program.inputs -/
theorem g3_56 {E : Ev} {cc : ByteArray} {nL : Nat} {ret : Option FieldType} {R : Room} {cl sl : Nat} {Z : Zt} {pc : Nat} {L st : List Vv} {M : Mm} {N : Nn} {a b : Nat} (hd : decode cc pc = .ok (.getfield 56, 3)) (k : Go E RX3 cc nL ret R cl sl Z (pc + 3) L (vi (M (18, a, b) 12) :: st) M N) : Go E RX3 cc nL ret R cl sl Z (pc) L (vr (18, a, b) :: st) M N := go_get0 hd f3_56 rfl rfl rfl k
theorem q3_56 : PLk RX3 56 3 12 (.int) := ⟨RX3, TX3, 13, rfl, by decide, rfl, ly3, fw3_56, ⟨tyX3, tyX3_ok⟩, nmX3, rfl, by decide +kernel⟩
theorem p3_56 {E : Ev} {cc : ByteArray} {nL : Nat} {ret : Option FieldType} {R : Room} {cl sl : Nat} {Z : Zt} {pc : Nat} {L st : List Vv} {M : Mm} {N : Nn} {a b : Nat} {x : Int} (hd : decode cc pc = .ok (.putfield 56, 3)) (k : Go E RX3 cc nL ret R cl sl Z (pc + 3) L (st) (wr M (18, a, b) 12 x) N) : Go E RX3 cc nL ret R cl sl Z (pc) L (vi x :: vr (18, a, b) :: st) M N := go_put0 hd q3_56 rfl rfl rfl rfl rfl k
theorem fw4_9 : Cond.fieldLink RX4 9 (TX4 2).1 (TX4 2).2.1 (TX4 2).2.2.1 ∈ BIG := bg1 38 (by decide +kernel) rfl
theorem f4_9 : FLk RX4 9 4 2 := ⟨RX4, TX4, 13, rfl, by decide, rfl, ly4, fw4_9⟩
/-- RoundedSums$Reader.text -/
theorem g4_9 {E : Ev} {cc : ByteArray} {nL : Nat} {ret : Option FieldType} {R : Room} {cl sl : Nat} {Z : Zt} {pc : Nat} {L st : List Vv} {M : Mm} {N : Nn} {a b : Nat} (hd : decode cc pc = .ok (.getfield 9, 3)) (k : Go E RX4 cc nL ret R cl sl Z (pc + 3) L (vr (N (6, a, b) 2) :: st) M N) : Go E RX4 cc nL ret R cl sl Z (pc) L (vr (6, a, b) :: st) M N := go_get3 hd f4_9 rfl rfl rfl k
theorem q4_9 : PLk RX4 9 4 2 (.array .byte) := ⟨RX4, TX4, 13, rfl, by decide, rfl, ly4, fw4_9, ⟨tyX4, tyX4_ok⟩, nmX4, rfl, by decide +kernel⟩
theorem p4_9 {E : Ev} {cc : ByteArray} {nL : Nat} {ret : Option FieldType} {R : Room} {cl sl : Nat} {Z : Zt} {pc : Nat} {L st : List Vv} {M : Mm} {N : Nn} {a b : Nat} {r : Nm} (hd : decode cc pc = .ok (.putfield 9, 3)) (hr : Nat.beq r.1 0 = false) (k : Go E RX4 cc nL ret R cl sl Z (pc + 3) L (st) M (wrN N (6, a, b) 2 r)) : Go E RX4 cc nL ret R cl sl Z (pc) L (vr r :: vr (6, a, b) :: st) M N := go_put3 hd q4_9 rfl rfl rfl (fun _ => ⟨rfl, rfl⟩) hr k
theorem fw4_15 : Cond.fieldLink RX4 15 (TX4 3).1 (TX4 3).2.1 (TX4 3).2.2.1 ∈ BIG := bg1 39 (by decide +kernel) rfl
theorem f4_15 : FLk RX4 15 4 3 := ⟨RX4, TX4, 13, rfl, by decide, rfl, ly4, fw4_15⟩
/-- RoundedSums$Reader.end -/
theorem g4_15 {E : Ev} {cc : ByteArray} {nL : Nat} {ret : Option FieldType} {R : Room} {cl sl : Nat} {Z : Zt} {pc : Nat} {L st : List Vv} {M : Mm} {N : Nn} {a b : Nat} (hd : decode cc pc = .ok (.getfield 15, 3)) (k : Go E RX4 cc nL ret R cl sl Z (pc + 3) L (vi (M (6, a, b) 3) :: st) M N) : Go E RX4 cc nL ret R cl sl Z (pc) L (vr (6, a, b) :: st) M N := go_get0 hd f4_15 rfl rfl rfl k
theorem q4_15 : PLk RX4 15 4 3 (.int) := ⟨RX4, TX4, 13, rfl, by decide, rfl, ly4, fw4_15, ⟨tyX4, tyX4_ok⟩, nmX4, rfl, by decide +kernel⟩
theorem p4_15 {E : Ev} {cc : ByteArray} {nL : Nat} {ret : Option FieldType} {R : Room} {cl sl : Nat} {Z : Zt} {pc : Nat} {L st : List Vv} {M : Mm} {N : Nn} {a b : Nat} {x : Int} (hd : decode cc pc = .ok (.putfield 15, 3)) (k : Go E RX4 cc nL ret R cl sl Z (pc + 3) L (st) (wr M (6, a, b) 3 x) N) : Go E RX4 cc nL ret R cl sl Z (pc) L (vi x :: vr (6, a, b) :: st) M N := go_put0 hd q4_15 rfl rfl rfl rfl rfl k
theorem fw4_19 : Cond.fieldLink RX4 19 (TX4 4).1 (TX4 4).2.1 (TX4 4).2.2.1 ∈ BIG := bg1 40 (by decide +kernel) rfl
theorem f4_19 : FLk RX4 19 4 4 := ⟨RX4, TX4, 13, rfl, by decide, rfl, ly4, fw4_19⟩
/-- RoundedSums$Reader.draft -/
theorem g4_19 {E : Ev} {cc : ByteArray} {nL : Nat} {ret : Option FieldType} {R : Room} {cl sl : Nat} {Z : Zt} {pc : Nat} {L st : List Vv} {M : Mm} {N : Nn} {a b : Nat} (hd : decode cc pc = .ok (.getfield 19, 3)) (k : Go E RX4 cc nL ret R cl sl Z (pc + 3) L (vr (N (6, a, b) 4) :: st) M N) : Go E RX4 cc nL ret R cl sl Z (pc) L (vr (6, a, b) :: st) M N := go_get3 hd f4_19 rfl rfl rfl k
theorem q4_19 : PLk RX4 19 4 4 (.object "RoundedSums$Program") := ⟨RX4, TX4, 13, rfl, by decide, rfl, ly4, fw4_19, ⟨tyX4, tyX4_ok⟩, nmX4, rfl, by decide +kernel⟩
theorem p4_19 {E : Ev} {cc : ByteArray} {nL : Nat} {ret : Option FieldType} {R : Room} {cl sl : Nat} {Z : Zt} {pc : Nat} {L st : List Vv} {M : Mm} {N : Nn} {a b : Nat} {r : Nm} (hd : decode cc pc = .ok (.putfield 19, 3)) (hr : Nat.beq r.1 0 = false) (k : Go E RX4 cc nL ret R cl sl Z (pc + 3) L (st) M (wrN N (6, a, b) 4 r)) : Go E RX4 cc nL ret R cl sl Z (pc) L (vr r :: vr (6, a, b) :: st) M N := go_put3 hd q4_19 rfl rfl rfl (fun _ => ⟨rfl, rfl⟩) hr k
theorem fw4_23 : Cond.fieldLink RX4 23 (TX3 11).1 (TX3 11).2.1 (TX3 11).2.2.1 ∈ BIG := bg1 203 (by decide +kernel) rfl
theorem f4_23 : FLk RX4 23 3 11 := ⟨RX3, TX3, 13, rfl, by decide, rfl, ly3, fw4_23⟩
/-- RoundedSums$Program.count -/
theorem g4_23 {E : Ev} {cc : ByteArray} {nL : Nat} {ret : Option FieldType} {R : Room} {cl sl : Nat} {Z : Zt} {pc : Nat} {L st : List Vv} {M : Mm} {N : Nn} {a b : Nat} (hd : decode cc pc = .ok (.getfield 23, 3)) (k : Go E RX4 cc nL ret R cl sl Z (pc + 3) L (vi (M (18, a, b) 11) :: st) M N) : Go E RX4 cc nL ret R cl sl Z (pc) L (vr (18, a, b) :: st) M N := go_get0 hd f4_23 rfl rfl rfl k
theorem q4_23 : PLk RX4 23 3 11 (.int) := ⟨RX3, TX3, 13, rfl, by decide, rfl, ly3, fw4_23, ⟨tyX3, tyX3_ok⟩, nmX3, rfl, by decide +kernel⟩
theorem p4_23 {E : Ev} {cc : ByteArray} {nL : Nat} {ret : Option FieldType} {R : Room} {cl sl : Nat} {Z : Zt} {pc : Nat} {L st : List Vv} {M : Mm} {N : Nn} {a b : Nat} {x : Int} (hd : decode cc pc = .ok (.putfield 23, 3)) (k : Go E RX4 cc nL ret R cl sl Z (pc + 3) L (st) (wr M (18, a, b) 11 x) N) : Go E RX4 cc nL ret R cl sl Z (pc) L (vi x :: vr (18, a, b) :: st) M N := go_put0 hd q4_23 rfl rfl rfl rfl rfl k
theorem fw4_28 : Cond.fieldLink RX4 28 (TX3 12).1 (TX3 12).2.1 (TX3 12).2.2.1 ∈ BIG := bg1 208 (by decide +kernel) rfl
theorem f4_28 : FLk RX4 28 3 12 := ⟨RX3, TX3, 13, rfl, by decide, rfl, ly3, fw4_28⟩
/-- RoundedSums$Program.inputs -/
theorem g4_28 {E : Ev} {cc : ByteArray} {nL : Nat} {ret : Option FieldType} {R : Room} {cl sl : Nat} {Z : Zt} {pc : Nat} {L st : List Vv} {M : Mm} {N : Nn} {a b : Nat} (hd : decode cc pc = .ok (.getfield 28, 3)) (k : Go E RX4 cc nL ret R cl sl Z (pc + 3) L (vi (M (18, a, b) 12) :: st) M N) : Go E RX4 cc nL ret R cl sl Z (pc) L (vr (18, a, b) :: st) M N := go_get0 hd f4_28 rfl rfl rfl k
theorem q4_28 : PLk RX4 28 3 12 (.int) := ⟨RX3, TX3, 13, rfl, by decide, rfl, ly3, fw4_28, ⟨tyX3, tyX3_ok⟩, nmX3, rfl, by decide +kernel⟩
theorem p4_28 {E : Ev} {cc : ByteArray} {nL : Nat} {ret : Option FieldType} {R : Room} {cl sl : Nat} {Z : Zt} {pc : Nat} {L st : List Vv} {M : Mm} {N : Nn} {a b : Nat} {x : Int} (hd : decode cc pc = .ok (.putfield 28, 3)) (k : Go E RX4 cc nL ret R cl sl Z (pc + 3) L (st) (wr M (18, a, b) 12 x) N) : Go E RX4 cc nL ret R cl sl Z (pc) L (vi x :: vr (18, a, b) :: st) M N := go_put0 hd q4_28 rfl rfl rfl rfl rfl k
theorem fw4_31 : Cond.fieldLink RX4 31 (TX4 0).1 (TX4 0).2.1 (TX4 0).2.2.1 ∈ BIG := bg1 34 (by decide +kernel) rfl
theorem f4_31 : FLk RX4 31 4 0 := ⟨RX4, TX4, 13, rfl, by decide, rfl, ly4, fw4_31⟩
/-- RoundedSums$Reader.faultNumber -/
theorem g4_31 {E : Ev} {cc : ByteArray} {nL : Nat} {ret : Option FieldType} {R : Room} {cl sl : Nat} {Z : Zt} {pc : Nat} {L st : List Vv} {M : Mm} {N : Nn} {a b : Nat} (hd : decode cc pc = .ok (.getfield 31, 3)) (k : Go E RX4 cc nL ret R cl sl Z (pc + 3) L (vi (M (6, a, b) 0) :: st) M N) : Go E RX4 cc nL ret R cl sl Z (pc) L (vr (6, a, b) :: st) M N := go_get0 hd f4_31 rfl rfl rfl k
theorem q4_31 : PLk RX4 31 4 0 (.int) := ⟨RX4, TX4, 13, rfl, by decide, rfl, ly4, fw4_31, ⟨tyX4, tyX4_ok⟩, nmX4, rfl, by decide +kernel⟩
theorem p4_31 {E : Ev} {cc : ByteArray} {nL : Nat} {ret : Option FieldType} {R : Room} {cl sl : Nat} {Z : Zt} {pc : Nat} {L st : List Vv} {M : Mm} {N : Nn} {a b : Nat} {x : Int} (hd : decode cc pc = .ok (.putfield 31, 3)) (k : Go E RX4 cc nL ret R cl sl Z (pc + 3) L (st) (wr M (6, a, b) 0 x) N) : Go E RX4 cc nL ret R cl sl Z (pc) L (vi x :: vr (6, a, b) :: st) M N := go_put0 hd q4_31 rfl rfl rfl rfl rfl k
theorem fw4_34 : Cond.fieldLink RX4 34 (TX4 1).1 (TX4 1).2.1 (TX4 1).2.2.1 ∈ BIG := bg1 36 (by decide +kernel) rfl
theorem f4_34 : FLk RX4 34 4 1 := ⟨RX4, TX4, 13, rfl, by decide, rfl, ly4, fw4_34⟩
/-- RoundedSums$Reader.faultPlace -/
theorem g4_34 {E : Ev} {cc : ByteArray} {nL : Nat} {ret : Option FieldType} {R : Room} {cl sl : Nat} {Z : Zt} {pc : Nat} {L st : List Vv} {M : Mm} {N : Nn} {a b : Nat} (hd : decode cc pc = .ok (.getfield 34, 3)) (k : Go E RX4 cc nL ret R cl sl Z (pc + 3) L (vi (M (6, a, b) 1) :: st) M N) : Go E RX4 cc nL ret R cl sl Z (pc) L (vr (6, a, b) :: st) M N := go_get0 hd f4_34 rfl rfl rfl k
theorem q4_34 : PLk RX4 34 4 1 (.int) := ⟨RX4, TX4, 13, rfl, by decide, rfl, ly4, fw4_34, ⟨tyX4, tyX4_ok⟩, nmX4, rfl, by decide +kernel⟩
theorem p4_34 {E : Ev} {cc : ByteArray} {nL : Nat} {ret : Option FieldType} {R : Room} {cl sl : Nat} {Z : Zt} {pc : Nat} {L st : List Vv} {M : Mm} {N : Nn} {a b : Nat} {x : Int} (hd : decode cc pc = .ok (.putfield 34, 3)) (k : Go E RX4 cc nL ret R cl sl Z (pc + 3) L (st) (wr M (6, a, b) 1 x) N) : Go E RX4 cc nL ret R cl sl Z (pc) L (vi x :: vr (6, a, b) :: st) M N := go_put0 hd q4_34 rfl rfl rfl rfl rfl k
theorem fw4_37 : Cond.fieldLink RX4 37 (TX4 7).1 (TX4 7).2.1 (TX4 7).2.2.1 ∈ BIG := bg1 43 (by decide +kernel) rfl
theorem f4_37 : FLk RX4 37 4 7 := ⟨RX4, TX4, 13, rfl, by decide, rfl, ly4, fw4_37⟩
/-- RoundedSums$Reader.after -/
theorem g4_37 {E : Ev} {cc : ByteArray} {nL : Nat} {ret : Option FieldType} {R : Room} {cl sl : Nat} {Z : Zt} {pc : Nat} {L st : List Vv} {M : Mm} {N : Nn} {a b : Nat} (hd : decode cc pc = .ok (.getfield 37, 3)) (k : Go E RX4 cc nL ret R cl sl Z (pc + 3) L (vi (M (6, a, b) 7) :: st) M N) : Go E RX4 cc nL ret R cl sl Z (pc) L (vr (6, a, b) :: st) M N := go_get0 hd f4_37 rfl rfl rfl k
theorem q4_37 : PLk RX4 37 4 7 (.int) := ⟨RX4, TX4, 13, rfl, by decide, rfl, ly4, fw4_37, ⟨tyX4, tyX4_ok⟩, nmX4, rfl, by decide +kernel⟩
theorem p4_37 {E : Ev} {cc : ByteArray} {nL : Nat} {ret : Option FieldType} {R : Room} {cl sl : Nat} {Z : Zt} {pc : Nat} {L st : List Vv} {M : Mm} {N : Nn} {a b : Nat} {x : Int} (hd : decode cc pc = .ok (.putfield 37, 3)) (k : Go E RX4 cc nL ret R cl sl Z (pc + 3) L (st) (wr M (6, a, b) 7 x) N) : Go E RX4 cc nL ret R cl sl Z (pc) L (vi x :: vr (6, a, b) :: st) M N := go_put0 hd q4_37 rfl rfl rfl rfl rfl k
theorem fw4_47 : Cond.fieldLink RX4 47 (TX4 5).1 (TX4 5).2.1 (TX4 5).2.2.1 ∈ BIG := bg1 41 (by decide +kernel) rfl
theorem f4_47 : FLk RX4 47 4 5 := ⟨RX4, TX4, 13, rfl, by decide, rfl, ly4, fw4_47⟩
/-- RoundedSums$Reader.kind -/
theorem g4_47 {E : Ev} {cc : ByteArray} {nL : Nat} {ret : Option FieldType} {R : Room} {cl sl : Nat} {Z : Zt} {pc : Nat} {L st : List Vv} {M : Mm} {N : Nn} {a b : Nat} (hd : decode cc pc = .ok (.getfield 47, 3)) (k : Go E RX4 cc nL ret R cl sl Z (pc + 3) L (vi (M (6, a, b) 5) :: st) M N) : Go E RX4 cc nL ret R cl sl Z (pc) L (vr (6, a, b) :: st) M N := go_get0 hd f4_47 rfl rfl rfl k
theorem q4_47 : PLk RX4 47 4 5 (.int) := ⟨RX4, TX4, 13, rfl, by decide, rfl, ly4, fw4_47, ⟨tyX4, tyX4_ok⟩, nmX4, rfl, by decide +kernel⟩
theorem p4_47 {E : Ev} {cc : ByteArray} {nL : Nat} {ret : Option FieldType} {R : Room} {cl sl : Nat} {Z : Zt} {pc : Nat} {L st : List Vv} {M : Mm} {N : Nn} {a b : Nat} {x : Int} (hd : decode cc pc = .ok (.putfield 47, 3)) (k : Go E RX4 cc nL ret R cl sl Z (pc + 3) L (st) (wr M (6, a, b) 5 x) N) : Go E RX4 cc nL ret R cl sl Z (pc) L (vi x :: vr (6, a, b) :: st) M N := go_put0 hd q4_47 rfl rfl rfl rfl rfl k
theorem fw4_54 : Cond.fieldLink RX4 54 (TX4 6).1 (TX4 6).2.1 (TX4 6).2.2.1 ∈ BIG := bg1 42 (by decide +kernel) rfl
theorem f4_54 : FLk RX4 54 4 6 := ⟨RX4, TX4, 13, rfl, by decide, rfl, ly4, fw4_54⟩
/-- RoundedSums$Reader.place -/
theorem g4_54 {E : Ev} {cc : ByteArray} {nL : Nat} {ret : Option FieldType} {R : Room} {cl sl : Nat} {Z : Zt} {pc : Nat} {L st : List Vv} {M : Mm} {N : Nn} {a b : Nat} (hd : decode cc pc = .ok (.getfield 54, 3)) (k : Go E RX4 cc nL ret R cl sl Z (pc + 3) L (vi (M (6, a, b) 6) :: st) M N) : Go E RX4 cc nL ret R cl sl Z (pc) L (vr (6, a, b) :: st) M N := go_get0 hd f4_54 rfl rfl rfl k
theorem q4_54 : PLk RX4 54 4 6 (.int) := ⟨RX4, TX4, 13, rfl, by decide, rfl, ly4, fw4_54, ⟨tyX4, tyX4_ok⟩, nmX4, rfl, by decide +kernel⟩
theorem p4_54 {E : Ev} {cc : ByteArray} {nL : Nat} {ret : Option FieldType} {R : Room} {cl sl : Nat} {Z : Zt} {pc : Nat} {L st : List Vv} {M : Mm} {N : Nn} {a b : Nat} {x : Int} (hd : decode cc pc = .ok (.putfield 54, 3)) (k : Go E RX4 cc nL ret R cl sl Z (pc + 3) L (st) (wr M (6, a, b) 6 x) N) : Go E RX4 cc nL ret R cl sl Z (pc) L (vi x :: vr (6, a, b) :: st) M N := go_put0 hd q4_54 rfl rfl rfl rfl rfl k
theorem fw4_99 : Cond.fieldLink RX4 99 (TX4 9).1 (TX4 9).2.1 (TX4 9).2.2.1 ∈ BIG := bg1 45 (by decide +kernel) rfl
theorem f4_99 : FLk RX4 99 4 9 := ⟨RX4, TX4, 13, rfl, by decide, rfl, ly4, fw4_99⟩
/-- RoundedSums$Reader.number -/
theorem g4_99 {E : Ev} {cc : ByteArray} {nL : Nat} {ret : Option FieldType} {R : Room} {cl sl : Nat} {Z : Zt} {pc : Nat} {L st : List Vv} {M : Mm} {N : Nn} {a b : Nat} (hd : decode cc pc = .ok (.getfield 99, 3)) (k : Go E RX4 cc nL ret R cl sl Z (pc + 3) L (vi (M (6, a, b) 9) :: st) M N) : Go E RX4 cc nL ret R cl sl Z (pc) L (vr (6, a, b) :: st) M N := go_get0 hd f4_99 rfl rfl rfl k
theorem q4_99 : PLk RX4 99 4 9 (.int) := ⟨RX4, TX4, 13, rfl, by decide, rfl, ly4, fw4_99, ⟨tyX4, tyX4_ok⟩, nmX4, rfl, by decide +kernel⟩
theorem p4_99 {E : Ev} {cc : ByteArray} {nL : Nat} {ret : Option FieldType} {R : Room} {cl sl : Nat} {Z : Zt} {pc : Nat} {L st : List Vv} {M : Mm} {N : Nn} {a b : Nat} {x : Int} (hd : decode cc pc = .ok (.putfield 99, 3)) (k : Go E RX4 cc nL ret R cl sl Z (pc + 3) L (st) (wr M (6, a, b) 9 x) N) : Go E RX4 cc nL ret R cl sl Z (pc) L (vi x :: vr (6, a, b) :: st) M N := go_put0 hd q4_99 rfl rfl rfl rfl rfl k
theorem fw4_107 : Cond.fieldLink RX4 107 (TX4 10).1 (TX4 10).2.1 (TX4 10).2.2.1 ∈ BIG := bg1 46 (by decide +kernel) rfl
theorem f4_107 : FLk RX4 107 4 10 := ⟨RX4, TX4, 13, rfl, by decide, rfl, ly4, fw4_107⟩
/-- RoundedSums$Reader.numberPlace -/
theorem g4_107 {E : Ev} {cc : ByteArray} {nL : Nat} {ret : Option FieldType} {R : Room} {cl sl : Nat} {Z : Zt} {pc : Nat} {L st : List Vv} {M : Mm} {N : Nn} {a b : Nat} (hd : decode cc pc = .ok (.getfield 107, 3)) (k : Go E RX4 cc nL ret R cl sl Z (pc + 3) L (vi (M (6, a, b) 10) :: st) M N) : Go E RX4 cc nL ret R cl sl Z (pc) L (vr (6, a, b) :: st) M N := go_get0 hd f4_107 rfl rfl rfl k
theorem q4_107 : PLk RX4 107 4 10 (.int) := ⟨RX4, TX4, 13, rfl, by decide, rfl, ly4, fw4_107, ⟨tyX4, tyX4_ok⟩, nmX4, rfl, by decide +kernel⟩
theorem p4_107 {E : Ev} {cc : ByteArray} {nL : Nat} {ret : Option FieldType} {R : Room} {cl sl : Nat} {Z : Zt} {pc : Nat} {L st : List Vv} {M : Mm} {N : Nn} {a b : Nat} {x : Int} (hd : decode cc pc = .ok (.putfield 107, 3)) (k : Go E RX4 cc nL ret R cl sl Z (pc + 3) L (st) (wr M (6, a, b) 10 x) N) : Go E RX4 cc nL ret R cl sl Z (pc) L (vi x :: vr (6, a, b) :: st) M N := go_put0 hd q4_107 rfl rfl rfl rfl rfl k
theorem fw4_110 : Cond.fieldLink RX4 110 (TX4 11).1 (TX4 11).2.1 (TX4 11).2.2.1 ∈ BIG := bg1 47 (by decide +kernel) rfl
theorem f4_110 : FLk RX4 110 4 11 := ⟨RX4, TX4, 13, rfl, by decide, rfl, ly4, fw4_110⟩
/-- RoundedSums$Reader.newName -/
theorem g4_110 {E : Ev} {cc : ByteArray} {nL : Nat} {ret : Option FieldType} {R : Room} {cl sl : Nat} {Z : Zt} {pc : Nat} {L st : List Vv} {M : Mm} {N : Nn} {a b : Nat} (hd : decode cc pc = .ok (.getfield 110, 3)) (k : Go E RX4 cc nL ret R cl sl Z (pc + 3) L (vi (M (6, a, b) 11) :: st) M N) : Go E RX4 cc nL ret R cl sl Z (pc) L (vr (6, a, b) :: st) M N := go_get0 hd f4_110 rfl rfl rfl k
theorem q4_110 : PLk RX4 110 4 11 (.int) := ⟨RX4, TX4, 13, rfl, by decide, rfl, ly4, fw4_110, ⟨tyX4, tyX4_ok⟩, nmX4, rfl, by decide +kernel⟩
theorem p4_110 {E : Ev} {cc : ByteArray} {nL : Nat} {ret : Option FieldType} {R : Room} {cl sl : Nat} {Z : Zt} {pc : Nat} {L st : List Vv} {M : Mm} {N : Nn} {a b : Nat} {x : Int} (hd : decode cc pc = .ok (.putfield 110, 3)) (k : Go E RX4 cc nL ret R cl sl Z (pc + 3) L (st) (wr M (6, a, b) 11 x) N) : Go E RX4 cc nL ret R cl sl Z (pc) L (vi x :: vr (6, a, b) :: st) M N := go_put0 hd q4_110 rfl rfl rfl rfl rfl k
theorem fw4_117 : Cond.fieldLink RX4 117 (TX4 12).1 (TX4 12).2.1 (TX4 12).2.2.1 ∈ BIG := bg1 48 (by decide +kernel) rfl
theorem f4_117 : FLk RX4 117 4 12 := ⟨RX4, TX4, 13, rfl, by decide, rfl, ly4, fw4_117⟩
/-- RoundedSums$Reader.by -/
theorem g4_117 {E : Ev} {cc : ByteArray} {nL : Nat} {ret : Option FieldType} {R : Room} {cl sl : Nat} {Z : Zt} {pc : Nat} {L st : List Vv} {M : Mm} {N : Nn} {a b : Nat} (hd : decode cc pc = .ok (.getfield 117, 3)) (k : Go E RX4 cc nL ret R cl sl Z (pc + 3) L (vi (M (6, a, b) 12) :: st) M N) : Go E RX4 cc nL ret R cl sl Z (pc) L (vr (6, a, b) :: st) M N := go_get0 hd f4_117 rfl rfl rfl k
theorem q4_117 : PLk RX4 117 4 12 (.int) := ⟨RX4, TX4, 13, rfl, by decide, rfl, ly4, fw4_117, ⟨tyX4, tyX4_ok⟩, nmX4, rfl, by decide +kernel⟩
theorem p4_117 {E : Ev} {cc : ByteArray} {nL : Nat} {ret : Option FieldType} {R : Room} {cl sl : Nat} {Z : Zt} {pc : Nat} {L st : List Vv} {M : Mm} {N : Nn} {a b : Nat} {x : Int} (hd : decode cc pc = .ok (.putfield 117, 3)) (k : Go E RX4 cc nL ret R cl sl Z (pc + 3) L (st) (wr M (6, a, b) 12 x) N) : Go E RX4 cc nL ret R cl sl Z (pc) L (vi x :: vr (6, a, b) :: st) M N := go_put0 hd q4_117 rfl rfl rfl rfl rfl k
theorem fw4_129 : Cond.fieldLink RX4 129 (TX4 8).1 (TX4 8).2.1 (TX4 8).2.2.1 ∈ BIG := bg1 44 (by decide +kernel) rfl
theorem f4_129 : FLk RX4 129 4 8 := ⟨RX4, TX4, 13, rfl, by decide, rfl, ly4, fw4_129⟩
/-- RoundedSums$Reader.meaning -/
theorem g4_129 {E : Ev} {cc : ByteArray} {nL : Nat} {ret : Option FieldType} {R : Room} {cl sl : Nat} {Z : Zt} {pc : Nat} {L st : List Vv} {M : Mm} {N : Nn} {a b : Nat} (hd : decode cc pc = .ok (.getfield 129, 3)) (k : Go E RX4 cc nL ret R cl sl Z (pc + 3) L (vi (M (6, a, b) 8) :: st) M N) : Go E RX4 cc nL ret R cl sl Z (pc) L (vr (6, a, b) :: st) M N := go_get0 hd f4_129 rfl rfl rfl k
theorem q4_129 : PLk RX4 129 4 8 (.int) := ⟨RX4, TX4, 13, rfl, by decide, rfl, ly4, fw4_129, ⟨tyX4, tyX4_ok⟩, nmX4, rfl, by decide +kernel⟩
theorem p4_129 {E : Ev} {cc : ByteArray} {nL : Nat} {ret : Option FieldType} {R : Room} {cl sl : Nat} {Z : Zt} {pc : Nat} {L st : List Vv} {M : Mm} {N : Nn} {a b : Nat} {x : Int} (hd : decode cc pc = .ok (.putfield 129, 3)) (k : Go E RX4 cc nL ret R cl sl Z (pc + 3) L (st) (wr M (6, a, b) 8 x) N) : Go E RX4 cc nL ret R cl sl Z (pc) L (vi x :: vr (6, a, b) :: st) M N := go_put0 hd q4_129 rfl rfl rfl rfl rfl k
theorem fw5_9 : Cond.fieldLink RX5 9 (TX5 0).1 (TX5 0).2.1 (TX5 0).2.2.1 ∈ BIG := bg2 38 (by decide +kernel) rfl
theorem f5_9 : FLk RX5 9 5 0 := ⟨RX5, TX5, 2, rfl, by decide, rfl, ly5, fw5_9⟩
/-- RoundedSums$Run.exact -/
theorem g5_9 {E : Ev} {cc : ByteArray} {nL : Nat} {ret : Option FieldType} {R : Room} {cl sl : Nat} {Z : Zt} {pc : Nat} {L st : List Vv} {M : Mm} {N : Nn} {a b : Nat} (hd : decode cc pc = .ok (.getfield 9, 3)) (k : Go E RX5 cc nL ret R cl sl Z (pc + 3) L (vr (27, 0, 0) :: st) M N) : Go E RX5 cc nL ret R cl sl Z (pc) L (vr (26, a, b) :: st) M N := go_get2 hd f5_9 rfl rfl rfl rfl rfl k
theorem fw5_15 : Cond.fieldLink RX5 15 (TX5 1).1 (TX5 1).2.1 (TX5 1).2.2.1 ∈ BIG := bg2 40 (by decide +kernel) rfl
theorem f5_15 : FLk RX5 15 5 1 := ⟨RX5, TX5, 2, rfl, by decide, rfl, ly5, fw5_15⟩
/-- RoundedSums$Run.computed -/
theorem g5_15 {E : Ev} {cc : ByteArray} {nL : Nat} {ret : Option FieldType} {R : Room} {cl sl : Nat} {Z : Zt} {pc : Nat} {L st : List Vv} {M : Mm} {N : Nn} {a b : Nat} (hd : decode cc pc = .ok (.getfield 15, 3)) (k : Go E RX5 cc nL ret R cl sl Z (pc + 3) L (vr (28, 0, 0) :: st) M N) : Go E RX5 cc nL ret R cl sl Z (pc) L (vr (26, a, b) :: st) M N := go_get2 hd f5_15 rfl rfl rfl rfl rfl k
theorem fw5_24 : Cond.fieldLink RX5 24 (TX3 0).1 (TX3 0).2.1 (TX3 0).2.2.1 ∈ BIG := bg1 168 (by decide +kernel) rfl
theorem f5_24 : FLk RX5 24 3 0 := ⟨RX3, TX3, 13, rfl, by decide, rfl, ly3, fw5_24⟩
/-- RoundedSums$Program.sign -/
theorem g5_24 {E : Ev} {cc : ByteArray} {nL : Nat} {ret : Option FieldType} {R : Room} {cl sl : Nat} {Z : Zt} {pc : Nat} {L st : List Vv} {M : Mm} {N : Nn} {a b : Nat} (hd : decode cc pc = .ok (.getfield 24, 3)) (k : Go E RX5 cc nL ret R cl sl Z (pc + 3) L (vr (19, a, 0) :: st) M N) : Go E RX5 cc nL ret R cl sl Z (pc) L (vr (18, a, b) :: st) M N := go_get2 hd f5_24 rfl rfl rfl rfl rfl k
theorem fw5_32 : Cond.fieldLink RX5 32 (TX3 4).1 (TX3 4).2.1 (TX3 4).2.2.1 ∈ BIG := bg1 183 (by decide +kernel) rfl
theorem f5_32 : FLk RX5 32 3 4 := ⟨RX3, TX3, 13, rfl, by decide, rfl, ly3, fw5_32⟩
/-- RoundedSums$Program.gridOf -/
theorem g5_32 {E : Ev} {cc : ByteArray} {nL : Nat} {ret : Option FieldType} {R : Room} {cl sl : Nat} {Z : Zt} {pc : Nat} {L st : List Vv} {M : Mm} {N : Nn} {a b : Nat} (hd : decode cc pc = .ok (.getfield 32, 3)) (k : Go E RX5 cc nL ret R cl sl Z (pc + 3) L (vr (19, a, 4) :: st) M N) : Go E RX5 cc nL ret R cl sl Z (pc) L (vr (18, a, b) :: st) M N := go_get2 hd f5_32 rfl rfl rfl rfl rfl k
theorem fw6_9 : Cond.fieldLink RX6 9 (TX6 1).1 (TX6 1).2.1 (TX6 1).2.2.1 ∈ BIG := bg2 49 (by decide +kernel) rfl
theorem f6_9 : FLk RX6 9 6 1 := ⟨RX6, TX6, 5, rfl, by decide, rfl, ly6, fw6_9⟩
/-- RoundedSums$Seeker.best -/
theorem g6_9 {E : Ev} {cc : ByteArray} {nL : Nat} {ret : Option FieldType} {R : Room} {cl sl : Nat} {Z : Zt} {pc : Nat} {L st : List Vv} {M : Mm} {N : Nn} {a b : Nat} (hd : decode cc pc = .ok (.getfield 9, 3)) (k : Go E RX6 cc nL ret R cl sl Z (pc + 3) L (vr (24, 0, 0) :: st) M N) : Go E RX6 cc nL ret R cl sl Z (pc) L (vr (23, a, b) :: st) M N := go_get2 hd f6_9 rfl rfl rfl rfl rfl k
theorem fw6_15 : Cond.fieldLink RX6 15 (TX6 2).1 (TX6 2).2.1 (TX6 2).2.2.1 ∈ BIG := bg2 51 (by decide +kernel) rfl
theorem f6_15 : FLk RX6 15 6 2 := ⟨RX6, TX6, 5, rfl, by decide, rfl, ly6, fw6_15⟩
/-- RoundedSums$Seeker.point -/
theorem g6_15 {E : Ev} {cc : ByteArray} {nL : Nat} {ret : Option FieldType} {R : Room} {cl sl : Nat} {Z : Zt} {pc : Nat} {L st : List Vv} {M : Mm} {N : Nn} {a b : Nat} (hd : decode cc pc = .ok (.getfield 15, 3)) (k : Go E RX6 cc nL ret R cl sl Z (pc + 3) L (vr (25, 0, 0) :: st) M N) : Go E RX6 cc nL ret R cl sl Z (pc) L (vr (23, a, b) :: st) M N := go_get2 hd f6_15 rfl rfl rfl rfl rfl k
theorem fw6_21 : Cond.fieldLink RX6 21 (TX6 3).1 (TX6 3).2.1 (TX6 3).2.2.1 ∈ BIG := bg2 52 (by decide +kernel) rfl
theorem f6_21 : FLk RX6 21 6 3 := ⟨RX6, TX6, 5, rfl, by decide, rfl, ly6, fw6_21⟩
/-- RoundedSums$Seeker.run -/
theorem g6_21 {E : Ev} {cc : ByteArray} {nL : Nat} {ret : Option FieldType} {R : Room} {cl sl : Nat} {Z : Zt} {pc : Nat} {L st : List Vv} {M : Mm} {N : Nn} {a b : Nat} (hd : decode cc pc = .ok (.getfield 21, 3)) (k : Go E RX6 cc nL ret R cl sl Z (pc + 3) L (vr (26, 0, 0) :: st) M N) : Go E RX6 cc nL ret R cl sl Z (pc) L (vr (23, a, b) :: st) M N := go_get2 hd f6_21 rfl rfl rfl rfl rfl k
theorem fw6_25 : Cond.fieldLink RX6 25 (TX6 4).1 (TX6 4).2.1 (TX6 4).2.2.1 ∈ BIG := bg2 54 (by decide +kernel) rfl
theorem f6_25 : FLk RX6 25 6 4 := ⟨RX6, TX6, 5, rfl, by decide, rfl, ly6, fw6_25⟩
/-- RoundedSums$Seeker.seed -/
theorem g6_25 {E : Ev} {cc : ByteArray} {nL : Nat} {ret : Option FieldType} {R : Room} {cl sl : Nat} {Z : Zt} {pc : Nat} {L st : List Vv} {M : Mm} {N : Nn} {a b : Nat} (hd : decode cc pc = .ok (.getfield 25, 3)) (k : Go E RX6 cc nL ret R cl sl Z (pc + 3) L (vi (M (23, a, b) 4) :: st) M N) : Go E RX6 cc nL ret R cl sl Z (pc) L (vr (23, a, b) :: st) M N := go_get0 hd f6_25 rfl rfl rfl k
theorem q6_25 : PLk RX6 25 6 4 (.int) := ⟨RX6, TX6, 5, rfl, by decide, rfl, ly6, fw6_25, ⟨tyX6, tyX6_ok⟩, nmX6, rfl, by decide +kernel⟩
theorem p6_25 {E : Ev} {cc : ByteArray} {nL : Nat} {ret : Option FieldType} {R : Room} {cl sl : Nat} {Z : Zt} {pc : Nat} {L st : List Vv} {M : Mm} {N : Nn} {a b : Nat} {x : Int} (hd : decode cc pc = .ok (.putfield 25, 3)) (k : Go E RX6 cc nL ret R cl sl Z (pc + 3) L (st) (wr M (23, a, b) 4 x) N) : Go E RX6 cc nL ret R cl sl Z (pc) L (vi x :: vr (23, a, b) :: st) M N := go_put0 hd q6_25 rfl rfl rfl rfl rfl k
theorem fw6_31 : Cond.fieldLink RX6 31 (TX6 0).1 (TX6 0).2.1 (TX6 0).2.2.1 ∈ BIG := bg2 47 (by decide +kernel) rfl
theorem f6_31 : FLk RX6 31 6 0 := ⟨RX6, TX6, 5, rfl, by decide, rfl, ly6, fw6_31⟩
/-- RoundedSums$Seeker.greatest -/
theorem g6_31 {E : Ev} {cc : ByteArray} {nL : Nat} {ret : Option FieldType} {R : Room} {cl sl : Nat} {Z : Zt} {pc : Nat} {L st : List Vv} {M : Mm} {N : Nn} {a b : Nat} (hd : decode cc pc = .ok (.getfield 31, 3)) (k : Go E RX6 cc nL ret R cl sl Z (pc + 3) L (vl (M (23, a, b) 0) :: st) M N) : Go E RX6 cc nL ret R cl sl Z (pc) L (vr (23, a, b) :: st) M N := go_get1 hd f6_31 rfl rfl rfl k
theorem q6_31 : PLk RX6 31 6 0 (.long) := ⟨RX6, TX6, 5, rfl, by decide, rfl, ly6, fw6_31, ⟨tyX6, tyX6_ok⟩, nmX6, rfl, by decide +kernel⟩
theorem p6_31 {E : Ev} {cc : ByteArray} {nL : Nat} {ret : Option FieldType} {R : Room} {cl sl : Nat} {Z : Zt} {pc : Nat} {L st : List Vv} {M : Mm} {N : Nn} {a b : Nat} {x : Int} (hd : decode cc pc = .ok (.putfield 31, 3)) (k : Go E RX6 cc nL ret R cl sl Z (pc + 3) L (st) (wr M (23, a, b) 0 x) N) : Go E RX6 cc nL ret R cl sl Z (pc) L (vl x :: vr (23, a, b) :: st) M N := go_put1 hd q6_31 rfl rfl rfl k
theorem fw6_49 : Cond.fieldLink RX6 49 (TX3 12).1 (TX3 12).2.1 (TX3 12).2.2.1 ∈ BIG := bg1 211 (by decide +kernel) rfl
theorem f6_49 : FLk RX6 49 3 12 := ⟨RX3, TX3, 13, rfl, by decide, rfl, ly3, fw6_49⟩
/-- RoundedSums$Program.inputs -/
theorem g6_49 {E : Ev} {cc : ByteArray} {nL : Nat} {ret : Option FieldType} {R : Room} {cl sl : Nat} {Z : Zt} {pc : Nat} {L st : List Vv} {M : Mm} {N : Nn} {a b : Nat} (hd : decode cc pc = .ok (.getfield 49, 3)) (k : Go E RX6 cc nL ret R cl sl Z (pc + 3) L (vi (M (18, a, b) 12) :: st) M N) : Go E RX6 cc nL ret R cl sl Z (pc) L (vr (18, a, b) :: st) M N := go_get0 hd f6_49 rfl rfl rfl k
theorem q6_49 : PLk RX6 49 3 12 (.int) := ⟨RX3, TX3, 13, rfl, by decide, rfl, ly3, fw6_49, ⟨tyX3, tyX3_ok⟩, nmX3, rfl, by decide +kernel⟩
theorem p6_49 {E : Ev} {cc : ByteArray} {nL : Nat} {ret : Option FieldType} {R : Room} {cl sl : Nat} {Z : Zt} {pc : Nat} {L st : List Vv} {M : Mm} {N : Nn} {a b : Nat} {x : Int} (hd : decode cc pc = .ok (.putfield 49, 3)) (k : Go E RX6 cc nL ret R cl sl Z (pc + 3) L (st) (wr M (18, a, b) 12 x) N) : Go E RX6 cc nL ret R cl sl Z (pc) L (vi x :: vr (18, a, b) :: st) M N := go_put0 hd q6_49 rfl rfl rfl rfl rfl k
theorem fw6_54 : Cond.fieldLink RX6 54 (TX3 10).1 (TX3 10).2.1 (TX3 10).2.2.1 ∈ BIG := bg1 201 (by decide +kernel) rfl
theorem f6_54 : FLk RX6 54 3 10 := ⟨RX3, TX3, 13, rfl, by decide, rfl, ly3, fw6_54⟩
/-- RoundedSums$Program.inputAt -/
theorem g6_54 {E : Ev} {cc : ByteArray} {nL : Nat} {ret : Option FieldType} {R : Room} {cl sl : Nat} {Z : Zt} {pc : Nat} {L st : List Vv} {M : Mm} {N : Nn} {a b : Nat} (hd : decode cc pc = .ok (.getfield 54, 3)) (k : Go E RX6 cc nL ret R cl sl Z (pc + 3) L (vr (19, a, 10) :: st) M N) : Go E RX6 cc nL ret R cl sl Z (pc) L (vr (18, a, b) :: st) M N := go_get2 hd f6_54 rfl rfl rfl rfl rfl k
theorem fw6_57 : Cond.fieldLink RX6 57 (TX3 2).1 (TX3 2).2.1 (TX3 2).2.2.1 ∈ BIG := bg1 174 (by decide +kernel) rfl
theorem f6_57 : FLk RX6 57 3 2 := ⟨RX3, TX3, 13, rfl, by decide, rfl, ly3, fw6_57⟩
/-- RoundedSums$Program.from -/
theorem g6_57 {E : Ev} {cc : ByteArray} {nL : Nat} {ret : Option FieldType} {R : Room} {cl sl : Nat} {Z : Zt} {pc : Nat} {L st : List Vv} {M : Mm} {N : Nn} {a b : Nat} (hd : decode cc pc = .ok (.getfield 57, 3)) (k : Go E RX6 cc nL ret R cl sl Z (pc + 3) L (vr (19, a, 2) :: st) M N) : Go E RX6 cc nL ret R cl sl Z (pc) L (vr (18, a, b) :: st) M N := go_get2 hd f6_57 rfl rfl rfl rfl rfl k
theorem fw6_84 : Cond.fieldLink RX6 84 (TX3 3).1 (TX3 3).2.1 (TX3 3).2.2.1 ∈ BIG := bg1 179 (by decide +kernel) rfl
theorem f6_84 : FLk RX6 84 3 3 := ⟨RX3, TX3, 13, rfl, by decide, rfl, ly3, fw6_84⟩
/-- RoundedSums$Program.to -/
theorem g6_84 {E : Ev} {cc : ByteArray} {nL : Nat} {ret : Option FieldType} {R : Room} {cl sl : Nat} {Z : Zt} {pc : Nat} {L st : List Vv} {M : Mm} {N : Nn} {a b : Nat} (hd : decode cc pc = .ok (.getfield 84, 3)) (k : Go E RX6 cc nL ret R cl sl Z (pc + 3) L (vr (19, a, 3) :: st) M N) : Go E RX6 cc nL ret R cl sl Z (pc) L (vr (18, a, b) :: st) M N := go_get2 hd f6_84 rfl rfl rfl rfl rfl k
theorem fw8_11 : Cond.fieldLink RX8 11 (TX8 3).1 (TX8 3).2.1 (TX8 3).2.2.1 ∈ BIG := bg5 71 (by decide +kernel) rfl
theorem f8_11 : FLk RX8 11 8 3 := ⟨RX8, TX8, 52, rfl, by decide, rfl, ly8, fw8_11⟩
/-- RoundedSumsModel.where -/
theorem g8_11 {E : Ev} {cc : ByteArray} {nL : Nat} {ret : Option FieldType} {R : Room} {cl sl : Nat} {Z : Zt} {pc : Nat} {L st : List Vv} {M : Mm} {N : Nn} {a b : Nat} (hd : decode cc pc = .ok (.getfield 11, 3)) (k : Go E RX8 cc nL ret R cl sl Z (pc + 3) L (vi (M (29, a, b) 3) :: st) M N) : Go E RX8 cc nL ret R cl sl Z (pc) L (vr (29, a, b) :: st) M N := go_get0 hd f8_11 rfl rfl rfl k
theorem q8_11 : PLk RX8 11 8 3 (.int) := ⟨RX8, TX8, 52, rfl, by decide, rfl, ly8, fw8_11, ⟨tyX8, tyX8_ok⟩, nmX8, rfl, by decide +kernel⟩
theorem p8_11 {E : Ev} {cc : ByteArray} {nL : Nat} {ret : Option FieldType} {R : Room} {cl sl : Nat} {Z : Zt} {pc : Nat} {L st : List Vv} {M : Mm} {N : Nn} {a b : Nat} {x : Int} (hd : decode cc pc = .ok (.putfield 11, 3)) (k : Go E RX8 cc nL ret R cl sl Z (pc + 3) L (st) (wr M (29, a, b) 3 x) N) : Go E RX8 cc nL ret R cl sl Z (pc) L (vi x :: vr (29, a, b) :: st) M N := go_put0 hd q8_11 rfl rfl rfl rfl rfl k
theorem fw8_15 : Cond.fieldLink RX8 15 (TX8 4).1 (TX8 4).2.1 (TX8 4).2.2.1 ∈ BIG := bg5 72 (by decide +kernel) rfl
theorem f8_15 : FLk RX8 15 8 4 := ⟨RX8, TX8, 52, rfl, by decide, rfl, ly8, fw8_15⟩
/-- RoundedSumsModel.tape -/
theorem g8_15 {E : Ev} {cc : ByteArray} {nL : Nat} {ret : Option FieldType} {R : Room} {cl sl : Nat} {Z : Zt} {pc : Nat} {L st : List Vv} {M : Mm} {N : Nn} {a b : Nat} (hd : decode cc pc = .ok (.getfield 15, 3)) (k : Go E RX8 cc nL ret R cl sl Z (pc + 3) L (vr (30, 0, 4) :: st) M N) : Go E RX8 cc nL ret R cl sl Z (pc) L (vr (29, a, b) :: st) M N := go_get2 hd f8_15 rfl rfl rfl rfl rfl k
theorem fw8_19 : Cond.fieldLink RX8 19 (TX8 7).1 (TX8 7).2.1 (TX8 7).2.2.1 ∈ BIG := bg5 75 (by decide +kernel) rfl
theorem f8_19 : FLk RX8 19 8 7 := ⟨RX8, TX8, 52, rfl, by decide, rfl, ly8, fw8_19⟩
/-- RoundedSumsModel.sort -/
theorem g8_19 {E : Ev} {cc : ByteArray} {nL : Nat} {ret : Option FieldType} {R : Room} {cl sl : Nat} {Z : Zt} {pc : Nat} {L st : List Vv} {M : Mm} {N : Nn} {a b : Nat} (hd : decode cc pc = .ok (.getfield 19, 3)) (k : Go E RX8 cc nL ret R cl sl Z (pc + 3) L (vr (30, 0, 7) :: st) M N) : Go E RX8 cc nL ret R cl sl Z (pc) L (vr (29, a, b) :: st) M N := go_get2 hd f8_19 rfl rfl rfl rfl rfl k
theorem fw8_22 : Cond.fieldLink RX8 22 (TX8 8).1 (TX8 8).2.1 (TX8 8).2.2.1 ∈ BIG := bg5 76 (by decide +kernel) rfl
theorem f8_22 : FLk RX8 22 8 8 := ⟨RX8, TX8, 52, rfl, by decide, rfl, ly8, fw8_22⟩
/-- RoundedSumsModel.grid -/
theorem g8_22 {E : Ev} {cc : ByteArray} {nL : Nat} {ret : Option FieldType} {R : Room} {cl sl : Nat} {Z : Zt} {pc : Nat} {L st : List Vv} {M : Mm} {N : Nn} {a b : Nat} (hd : decode cc pc = .ok (.getfield 22, 3)) (k : Go E RX8 cc nL ret R cl sl Z (pc + 3) L (vr (30, 0, 8) :: st) M N) : Go E RX8 cc nL ret R cl sl Z (pc) L (vr (29, a, b) :: st) M N := go_get2 hd f8_22 rfl rfl rfl rfl rfl k
theorem fw8_25 : Cond.fieldLink RX8 25 (TX8 9).1 (TX8 9).2.1 (TX8 9).2.2.1 ∈ BIG := bg5 77 (by decide +kernel) rfl
theorem f8_25 : FLk RX8 25 8 9 := ⟨RX8, TX8, 52, rfl, by decide, rfl, ly8, fw8_25⟩
/-- RoundedSumsModel.from -/
theorem g8_25 {E : Ev} {cc : ByteArray} {nL : Nat} {ret : Option FieldType} {R : Room} {cl sl : Nat} {Z : Zt} {pc : Nat} {L st : List Vv} {M : Mm} {N : Nn} {a b : Nat} (hd : decode cc pc = .ok (.getfield 25, 3)) (k : Go E RX8 cc nL ret R cl sl Z (pc + 3) L (vr (30, 0, 9) :: st) M N) : Go E RX8 cc nL ret R cl sl Z (pc) L (vr (29, a, b) :: st) M N := go_get2 hd f8_25 rfl rfl rfl rfl rfl k
theorem fw8_28 : Cond.fieldLink RX8 28 (TX8 10).1 (TX8 10).2.1 (TX8 10).2.2.1 ∈ BIG := bg5 78 (by decide +kernel) rfl
theorem f8_28 : FLk RX8 28 8 10 := ⟨RX8, TX8, 52, rfl, by decide, rfl, ly8, fw8_28⟩
/-- RoundedSumsModel.to -/
theorem g8_28 {E : Ev} {cc : ByteArray} {nL : Nat} {ret : Option FieldType} {R : Room} {cl sl : Nat} {Z : Zt} {pc : Nat} {L st : List Vv} {M : Mm} {N : Nn} {a b : Nat} (hd : decode cc pc = .ok (.getfield 28, 3)) (k : Go E RX8 cc nL ret R cl sl Z (pc + 3) L (vr (30, 0, 10) :: st) M N) : Go E RX8 cc nL ret R cl sl Z (pc) L (vr (29, a, b) :: st) M N := go_get2 hd f8_28 rfl rfl rfl rfl rfl k
theorem fw8_31 : Cond.fieldLink RX8 31 (TX8 11).1 (TX8 11).2.1 (TX8 11).2.2.1 ∈ BIG := bg5 79 (by decide +kernel) rfl
theorem f8_31 : FLk RX8 31 8 11 := ⟨RX8, TX8, 52, rfl, by decide, rfl, ly8, fw8_31⟩
/-- RoundedSumsModel.operand -/
theorem g8_31 {E : Ev} {cc : ByteArray} {nL : Nat} {ret : Option FieldType} {R : Room} {cl sl : Nat} {Z : Zt} {pc : Nat} {L st : List Vv} {M : Mm} {N : Nn} {a b : Nat} (hd : decode cc pc = .ok (.getfield 31, 3)) (k : Go E RX8 cc nL ret R cl sl Z (pc + 3) L (vr (30, 0, 11) :: st) M N) : Go E RX8 cc nL ret R cl sl Z (pc) L (vr (29, a, b) :: st) M N := go_get2 hd f8_31 rfl rfl rfl rfl rfl k
theorem fw8_34 : Cond.fieldLink RX8 34 (TX8 12).1 (TX8 12).2.1 (TX8 12).2.2.1 ∈ BIG := bg5 80 (by decide +kernel) rfl
theorem f8_34 : FLk RX8 34 8 12 := ⟨RX8, TX8, 52, rfl, by decide, rfl, ly8, fw8_34⟩
/-- RoundedSumsModel.number -/
theorem g8_34 {E : Ev} {cc : ByteArray} {nL : Nat} {ret : Option FieldType} {R : Room} {cl sl : Nat} {Z : Zt} {pc : Nat} {L st : List Vv} {M : Mm} {N : Nn} {a b : Nat} (hd : decode cc pc = .ok (.getfield 34, 3)) (k : Go E RX8 cc nL ret R cl sl Z (pc + 3) L (vr (30, 0, 12) :: st) M N) : Go E RX8 cc nL ret R cl sl Z (pc) L (vr (29, a, b) :: st) M N := go_get2 hd f8_34 rfl rfl rfl rfl rfl k
theorem fw8_37 : Cond.fieldLink RX8 37 (TX8 13).1 (TX8 13).2.1 (TX8 13).2.2.1 ∈ BIG := bg5 81 (by decide +kernel) rfl
theorem f8_37 : FLk RX8 37 8 13 := ⟨RX8, TX8, 52, rfl, by decide, rfl, ly8, fw8_37⟩
/-- RoundedSumsModel.point -/
theorem g8_37 {E : Ev} {cc : ByteArray} {nL : Nat} {ret : Option FieldType} {R : Room} {cl sl : Nat} {Z : Zt} {pc : Nat} {L st : List Vv} {M : Mm} {N : Nn} {a b : Nat} (hd : decode cc pc = .ok (.getfield 37, 3)) (k : Go E RX8 cc nL ret R cl sl Z (pc + 3) L (vr (30, 0, 13) :: st) M N) : Go E RX8 cc nL ret R cl sl Z (pc) L (vr (29, a, b) :: st) M N := go_get2 hd f8_37 rfl rfl rfl rfl rfl k
theorem fw8_40 : Cond.fieldLink RX8 40 (TX8 24).1 (TX8 24).2.1 (TX8 24).2.2.1 ∈ BIG := bg5 92 (by decide +kernel) rfl
theorem f8_40 : FLk RX8 40 8 24 := ⟨RX8, TX8, 52, rfl, by decide, rfl, ly8, fw8_40⟩
/-- RoundedSumsModel.nameAt -/
theorem g8_40 {E : Ev} {cc : ByteArray} {nL : Nat} {ret : Option FieldType} {R : Room} {cl sl : Nat} {Z : Zt} {pc : Nat} {L st : List Vv} {M : Mm} {N : Nn} {a b : Nat} (hd : decode cc pc = .ok (.getfield 40, 3)) (k : Go E RX8 cc nL ret R cl sl Z (pc + 3) L (vr (30, 0, 24) :: st) M N) : Go E RX8 cc nL ret R cl sl Z (pc) L (vr (29, a, b) :: st) M N := go_get2 hd f8_40 rfl rfl rfl rfl rfl k
theorem fw8_43 : Cond.fieldLink RX8 43 (TX8 25).1 (TX8 25).2.1 (TX8 25).2.2.1 ∈ BIG := bg5 93 (by decide +kernel) rfl
theorem f8_43 : FLk RX8 43 8 25 := ⟨RX8, TX8, 52, rfl, by decide, rfl, ly8, fw8_43⟩
/-- RoundedSumsModel.nameLong -/
theorem g8_43 {E : Ev} {cc : ByteArray} {nL : Nat} {ret : Option FieldType} {R : Room} {cl sl : Nat} {Z : Zt} {pc : Nat} {L st : List Vv} {M : Mm} {N : Nn} {a b : Nat} (hd : decode cc pc = .ok (.getfield 43, 3)) (k : Go E RX8 cc nL ret R cl sl Z (pc + 3) L (vr (30, 0, 25) :: st) M N) : Go E RX8 cc nL ret R cl sl Z (pc) L (vr (29, a, b) :: st) M N := go_get2 hd f8_43 rfl rfl rfl rfl rfl k
theorem fw8_46 : Cond.fieldLink RX8 46 (TX8 27).1 (TX8 27).2.1 (TX8 27).2.2.1 ∈ BIG := bg5 95 (by decide +kernel) rfl
theorem f8_46 : FLk RX8 46 8 27 := ⟨RX8, TX8, 52, rfl, by decide, rfl, ly8, fw8_46⟩
/-- RoundedSumsModel.weight -/
theorem g8_46 {E : Ev} {cc : ByteArray} {nL : Nat} {ret : Option FieldType} {R : Room} {cl sl : Nat} {Z : Zt} {pc : Nat} {L st : List Vv} {M : Mm} {N : Nn} {a b : Nat} (hd : decode cc pc = .ok (.getfield 46, 3)) (k : Go E RX8 cc nL ret R cl sl Z (pc + 3) L (vr (30, 0, 27) :: st) M N) : Go E RX8 cc nL ret R cl sl Z (pc) L (vr (29, a, b) :: st) M N := go_get2 hd f8_46 rfl rfl rfl rfl rfl k
theorem fw8_50 : Cond.fieldLink RX8 50 (TX8 28).1 (TX8 28).2.1 (TX8 28).2.2.1 ∈ BIG := bg5 96 (by decide +kernel) rfl
theorem f8_50 : FLk RX8 50 8 28 := ⟨RX8, TX8, 52, rfl, by decide, rfl, ly8, fw8_50⟩
/-- RoundedSumsModel.fine -/
theorem g8_50 {E : Ev} {cc : ByteArray} {nL : Nat} {ret : Option FieldType} {R : Room} {cl sl : Nat} {Z : Zt} {pc : Nat} {L st : List Vv} {M : Mm} {N : Nn} {a b : Nat} (hd : decode cc pc = .ok (.getfield 50, 3)) (k : Go E RX8 cc nL ret R cl sl Z (pc + 3) L (vr (30, 0, 28) :: st) M N) : Go E RX8 cc nL ret R cl sl Z (pc) L (vr (29, a, b) :: st) M N := go_get2 hd f8_50 rfl rfl rfl rfl rfl k
theorem fw8_53 : Cond.fieldLink RX8 53 (TX8 29).1 (TX8 29).2.1 (TX8 29).2.2.1 ∈ BIG := bg5 97 (by decide +kernel) rfl
theorem f8_53 : FLk RX8 53 8 29 := ⟨RX8, TX8, 52, rfl, by decide, rfl, ly8, fw8_53⟩
/-- RoundedSumsModel.reckonedFine -/
theorem g8_53 {E : Ev} {cc : ByteArray} {nL : Nat} {ret : Option FieldType} {R : Room} {cl sl : Nat} {Z : Zt} {pc : Nat} {L st : List Vv} {M : Mm} {N : Nn} {a b : Nat} (hd : decode cc pc = .ok (.getfield 53, 3)) (k : Go E RX8 cc nL ret R cl sl Z (pc + 3) L (vr (30, 0, 29) :: st) M N) : Go E RX8 cc nL ret R cl sl Z (pc) L (vr (29, a, b) :: st) M N := go_get2 hd f8_53 rfl rfl rfl rfl rfl k
theorem fw8_56 : Cond.fieldLink RX8 56 (TX8 30).1 (TX8 30).2.1 (TX8 30).2.2.1 ∈ BIG := bg5 98 (by decide +kernel) rfl
theorem f8_56 : FLk RX8 56 8 30 := ⟨RX8, TX8, 52, rfl, by decide, rfl, ly8, fw8_56⟩
/-- RoundedSumsModel.exact -/
theorem g8_56 {E : Ev} {cc : ByteArray} {nL : Nat} {ret : Option FieldType} {R : Room} {cl sl : Nat} {Z : Zt} {pc : Nat} {L st : List Vv} {M : Mm} {N : Nn} {a b : Nat} (hd : decode cc pc = .ok (.getfield 56, 3)) (k : Go E RX8 cc nL ret R cl sl Z (pc + 3) L (vr (30, 0, 30) :: st) M N) : Go E RX8 cc nL ret R cl sl Z (pc) L (vr (29, a, b) :: st) M N := go_get2 hd f8_56 rfl rfl rfl rfl rfl k
theorem fw8_59 : Cond.fieldLink RX8 59 (TX8 31).1 (TX8 31).2.1 (TX8 31).2.2.1 ∈ BIG := bg5 99 (by decide +kernel) rfl
theorem f8_59 : FLk RX8 59 8 31 := ⟨RX8, TX8, 52, rfl, by decide, rfl, ly8, fw8_59⟩
/-- RoundedSumsModel.computed -/
theorem g8_59 {E : Ev} {cc : ByteArray} {nL : Nat} {ret : Option FieldType} {R : Room} {cl sl : Nat} {Z : Zt} {pc : Nat} {L st : List Vv} {M : Mm} {N : Nn} {a b : Nat} (hd : decode cc pc = .ok (.getfield 59, 3)) (k : Go E RX8 cc nL ret R cl sl Z (pc + 3) L (vr (30, 0, 31) :: st) M N) : Go E RX8 cc nL ret R cl sl Z (pc) L (vr (29, a, b) :: st) M N := go_get2 hd f8_59 rfl rfl rfl rfl rfl k
theorem fw8_62 : Cond.fieldLink RX8 62 (TX8 32).1 (TX8 32).2.1 (TX8 32).2.2.1 ∈ BIG := bg5 100 (by decide +kernel) rfl
theorem f8_62 : FLk RX8 62 8 32 := ⟨RX8, TX8, 52, rfl, by decide, rfl, ly8, fw8_62⟩
/-- RoundedSumsModel.at -/
theorem g8_62 {E : Ev} {cc : ByteArray} {nL : Nat} {ret : Option FieldType} {R : Room} {cl sl : Nat} {Z : Zt} {pc : Nat} {L st : List Vv} {M : Mm} {N : Nn} {a b : Nat} (hd : decode cc pc = .ok (.getfield 62, 3)) (k : Go E RX8 cc nL ret R cl sl Z (pc + 3) L (vr (30, 0, 32) :: st) M N) : Go E RX8 cc nL ret R cl sl Z (pc) L (vr (29, a, b) :: st) M N := go_get2 hd f8_62 rfl rfl rfl rfl rfl k
theorem fw8_65 : Cond.fieldLink RX8 65 (TX8 33).1 (TX8 33).2.1 (TX8 33).2.2.1 ∈ BIG := bg5 101 (by decide +kernel) rfl
theorem f8_65 : FLk RX8 65 8 33 := ⟨RX8, TX8, 52, rfl, by decide, rfl, ly8, fw8_65⟩
/-- RoundedSumsModel.form -/
theorem g8_65 {E : Ev} {cc : ByteArray} {nL : Nat} {ret : Option FieldType} {R : Room} {cl sl : Nat} {Z : Zt} {pc : Nat} {L st : List Vv} {M : Mm} {N : Nn} {a b : Nat} (hd : decode cc pc = .ok (.getfield 65, 3)) (k : Go E RX8 cc nL ret R cl sl Z (pc + 3) L (vr (30, 0, 33) :: st) M N) : Go E RX8 cc nL ret R cl sl Z (pc) L (vr (29, a, b) :: st) M N := go_get2 hd f8_65 rfl rfl rfl rfl rfl k
theorem fw8_68 : Cond.fieldLink RX8 68 (TX8 35).1 (TX8 35).2.1 (TX8 35).2.2.1 ∈ BIG := bg5 103 (by decide +kernel) rfl
theorem f8_68 : FLk RX8 68 8 35 := ⟨RX8, TX8, 52, rfl, by decide, rfl, ly8, fw8_68⟩
/-- RoundedSumsModel.noiseOf -/
theorem g8_68 {E : Ev} {cc : ByteArray} {nL : Nat} {ret : Option FieldType} {R : Room} {cl sl : Nat} {Z : Zt} {pc : Nat} {L st : List Vv} {M : Mm} {N : Nn} {a b : Nat} (hd : decode cc pc = .ok (.getfield 68, 3)) (k : Go E RX8 cc nL ret R cl sl Z (pc + 3) L (vr (30, 0, 35) :: st) M N) : Go E RX8 cc nL ret R cl sl Z (pc) L (vr (29, a, b) :: st) M N := go_get2 hd f8_68 rfl rfl rfl rfl rfl k
theorem fw8_71 : Cond.fieldLink RX8 71 (TX8 36).1 (TX8 36).2.1 (TX8 36).2.2.1 ∈ BIG := bg5 104 (by decide +kernel) rfl
theorem f8_71 : FLk RX8 71 8 36 := ⟨RX8, TX8, 52, rfl, by decide, rfl, ly8, fw8_71⟩
/-- RoundedSumsModel.noiseBy -/
theorem g8_71 {E : Ev} {cc : ByteArray} {nL : Nat} {ret : Option FieldType} {R : Room} {cl sl : Nat} {Z : Zt} {pc : Nat} {L st : List Vv} {M : Mm} {N : Nn} {a b : Nat} (hd : decode cc pc = .ok (.getfield 71, 3)) (k : Go E RX8 cc nL ret R cl sl Z (pc + 3) L (vr (30, 0, 36) :: st) M N) : Go E RX8 cc nL ret R cl sl Z (pc) L (vr (29, a, b) :: st) M N := go_get2 hd f8_71 rfl rfl rfl rfl rfl k
theorem fw8_74 : Cond.fieldLink RX8 74 (TX8 38).1 (TX8 38).2.1 (TX8 38).2.2.1 ∈ BIG := bg5 106 (by decide +kernel) rfl
theorem f8_74 : FLk RX8 74 8 38 := ⟨RX8, TX8, 52, rfl, by decide, rfl, ly8, fw8_74⟩
/-- RoundedSumsModel.low -/
theorem g8_74 {E : Ev} {cc : ByteArray} {nL : Nat} {ret : Option FieldType} {R : Room} {cl sl : Nat} {Z : Zt} {pc : Nat} {L st : List Vv} {M : Mm} {N : Nn} {a b : Nat} (hd : decode cc pc = .ok (.getfield 74, 3)) (k : Go E RX8 cc nL ret R cl sl Z (pc + 3) L (vr (30, 0, 38) :: st) M N) : Go E RX8 cc nL ret R cl sl Z (pc) L (vr (29, a, b) :: st) M N := go_get2 hd f8_74 rfl rfl rfl rfl rfl k
theorem fw8_77 : Cond.fieldLink RX8 77 (TX8 39).1 (TX8 39).2.1 (TX8 39).2.2.1 ∈ BIG := bg5 107 (by decide +kernel) rfl
theorem f8_77 : FLk RX8 77 8 39 := ⟨RX8, TX8, 52, rfl, by decide, rfl, ly8, fw8_77⟩
/-- RoundedSumsModel.high -/
theorem g8_77 {E : Ev} {cc : ByteArray} {nL : Nat} {ret : Option FieldType} {R : Room} {cl sl : Nat} {Z : Zt} {pc : Nat} {L st : List Vv} {M : Mm} {N : Nn} {a b : Nat} (hd : decode cc pc = .ok (.getfield 77, 3)) (k : Go E RX8 cc nL ret R cl sl Z (pc + 3) L (vr (30, 0, 39) :: st) M N) : Go E RX8 cc nL ret R cl sl Z (pc) L (vr (29, a, b) :: st) M N := go_get2 hd f8_77 rfl rfl rfl rfl rfl k
theorem fw8_80 : Cond.fieldLink RX8 80 (TX8 40).1 (TX8 40).2.1 (TX8 40).2.2.1 ∈ BIG := bg5 108 (by decide +kernel) rfl
theorem f8_80 : FLk RX8 80 8 40 := ⟨RX8, TX8, 52, rfl, by decide, rfl, ly8, fw8_80⟩
/-- RoundedSumsModel.mayBits -/
theorem g8_80 {E : Ev} {cc : ByteArray} {nL : Nat} {ret : Option FieldType} {R : Room} {cl sl : Nat} {Z : Zt} {pc : Nat} {L st : List Vv} {M : Mm} {N : Nn} {a b : Nat} (hd : decode cc pc = .ok (.getfield 80, 3)) (k : Go E RX8 cc nL ret R cl sl Z (pc + 3) L (vr (30, 0, 40) :: st) M N) : Go E RX8 cc nL ret R cl sl Z (pc) L (vr (29, a, b) :: st) M N := go_get2 hd f8_80 rfl rfl rfl rfl rfl k
theorem fw8_83 : Cond.fieldLink RX8 83 (TX8 41).1 (TX8 41).2.1 (TX8 41).2.2.1 ∈ BIG := bg5 109 (by decide +kernel) rfl
theorem f8_83 : FLk RX8 83 8 41 := ⟨RX8, TX8, 52, rfl, by decide, rfl, ly8, fw8_83⟩
/-- RoundedSumsModel.joined -/
theorem g8_83 {E : Ev} {cc : ByteArray} {nL : Nat} {ret : Option FieldType} {R : Room} {cl sl : Nat} {Z : Zt} {pc : Nat} {L st : List Vv} {M : Mm} {N : Nn} {a b : Nat} (hd : decode cc pc = .ok (.getfield 83, 3)) (k : Go E RX8 cc nL ret R cl sl Z (pc + 3) L (vr (30, 0, 41) :: st) M N) : Go E RX8 cc nL ret R cl sl Z (pc) L (vr (29, a, b) :: st) M N := go_get2 hd f8_83 rfl rfl rfl rfl rfl k
theorem fw8_86 : Cond.fieldLink RX8 86 (TX8 43).1 (TX8 43).2.1 (TX8 43).2.2.1 ∈ BIG := bg5 111 (by decide +kernel) rfl
theorem f8_86 : FLk RX8 86 8 43 := ⟨RX8, TX8, 52, rfl, by decide, rfl, ly8, fw8_86⟩
/-- RoundedSumsModel.pieceLow -/
theorem g8_86 {E : Ev} {cc : ByteArray} {nL : Nat} {ret : Option FieldType} {R : Room} {cl sl : Nat} {Z : Zt} {pc : Nat} {L st : List Vv} {M : Mm} {N : Nn} {a b : Nat} (hd : decode cc pc = .ok (.getfield 86, 3)) (k : Go E RX8 cc nL ret R cl sl Z (pc + 3) L (vr (30, 0, 43) :: st) M N) : Go E RX8 cc nL ret R cl sl Z (pc) L (vr (29, a, b) :: st) M N := go_get2 hd f8_86 rfl rfl rfl rfl rfl k
theorem fw8_89 : Cond.fieldLink RX8 89 (TX8 44).1 (TX8 44).2.1 (TX8 44).2.2.1 ∈ BIG := bg5 112 (by decide +kernel) rfl
theorem f8_89 : FLk RX8 89 8 44 := ⟨RX8, TX8, 52, rfl, by decide, rfl, ly8, fw8_89⟩
/-- RoundedSumsModel.pieceHigh -/
theorem g8_89 {E : Ev} {cc : ByteArray} {nL : Nat} {ret : Option FieldType} {R : Room} {cl sl : Nat} {Z : Zt} {pc : Nat} {L st : List Vv} {M : Mm} {N : Nn} {a b : Nat} (hd : decode cc pc = .ok (.getfield 89, 3)) (k : Go E RX8 cc nL ret R cl sl Z (pc + 3) L (vr (30, 0, 44) :: st) M N) : Go E RX8 cc nL ret R cl sl Z (pc) L (vr (29, a, b) :: st) M N := go_get2 hd f8_89 rfl rfl rfl rfl rfl k
theorem fw8_92 : Cond.fieldLink RX8 92 (TX8 45).1 (TX8 45).2.1 (TX8 45).2.2.1 ∈ BIG := bg5 113 (by decide +kernel) rfl
theorem f8_92 : FLk RX8 92 8 45 := ⟨RX8, TX8, 52, rfl, by decide, rfl, ly8, fw8_92⟩
/-- RoundedSumsModel.pieceBound -/
theorem g8_92 {E : Ev} {cc : ByteArray} {nL : Nat} {ret : Option FieldType} {R : Room} {cl sl : Nat} {Z : Zt} {pc : Nat} {L st : List Vv} {M : Mm} {N : Nn} {a b : Nat} (hd : decode cc pc = .ok (.getfield 92, 3)) (k : Go E RX8 cc nL ret R cl sl Z (pc + 3) L (vr (30, 0, 45) :: st) M N) : Go E RX8 cc nL ret R cl sl Z (pc) L (vr (29, a, b) :: st) M N := go_get2 hd f8_92 rfl rfl rfl rfl rfl k
theorem fw8_95 : Cond.fieldLink RX8 95 (TX8 46).1 (TX8 46).2.1 (TX8 46).2.2.1 ∈ BIG := bg5 114 (by decide +kernel) rfl
theorem f8_95 : FLk RX8 95 8 46 := ⟨RX8, TX8, 52, rfl, by decide, rfl, ly8, fw8_95⟩
/-- RoundedSumsModel.isGone -/
theorem g8_95 {E : Ev} {cc : ByteArray} {nL : Nat} {ret : Option FieldType} {R : Room} {cl sl : Nat} {Z : Zt} {pc : Nat} {L st : List Vv} {M : Mm} {N : Nn} {a b : Nat} (hd : decode cc pc = .ok (.getfield 95, 3)) (k : Go E RX8 cc nL ret R cl sl Z (pc + 3) L (vr (30, 0, 46) :: st) M N) : Go E RX8 cc nL ret R cl sl Z (pc) L (vr (29, a, b) :: st) M N := go_get2 hd f8_95 rfl rfl rfl rfl rfl k
theorem fw8_99 : Cond.fieldLink RX8 99 (TX8 49).1 (TX8 49).2.1 (TX8 49).2.2.1 ∈ BIG := bg5 117 (by decide +kernel) rfl
theorem f8_99 : FLk RX8 99 8 49 := ⟨RX8, TX8, 52, rfl, by decide, rfl, ly8, fw8_99⟩
/-- RoundedSumsModel.witness -/
theorem g8_99 {E : Ev} {cc : ByteArray} {nL : Nat} {ret : Option FieldType} {R : Room} {cl sl : Nat} {Z : Zt} {pc : Nat} {L st : List Vv} {M : Mm} {N : Nn} {a b : Nat} (hd : decode cc pc = .ok (.getfield 99, 3)) (k : Go E RX8 cc nL ret R cl sl Z (pc + 3) L (vr (30, 0, 49) :: st) M N) : Go E RX8 cc nL ret R cl sl Z (pc) L (vr (29, a, b) :: st) M N := go_get2 hd f8_99 rfl rfl rfl rfl rfl k
theorem fw8_102 : Cond.fieldLink RX8 102 (TX8 51).1 (TX8 51).2.1 (TX8 51).2.2.1 ∈ BIG := bg5 119 (by decide +kernel) rfl
theorem f8_102 : FLk RX8 102 8 51 := ⟨RX8, TX8, 52, rfl, by decide, rfl, ly8, fw8_102⟩
/-- RoundedSumsModel.gridAside -/
theorem g8_102 {E : Ev} {cc : ByteArray} {nL : Nat} {ret : Option FieldType} {R : Room} {cl sl : Nat} {Z : Zt} {pc : Nat} {L st : List Vv} {M : Mm} {N : Nn} {a b : Nat} (hd : decode cc pc = .ok (.getfield 102, 3)) (k : Go E RX8 cc nL ret R cl sl Z (pc + 3) L (vr (30, 0, 51) :: st) M N) : Go E RX8 cc nL ret R cl sl Z (pc) L (vr (29, a, b) :: st) M N := go_get2 hd f8_102 rfl rfl rfl rfl rfl k
theorem fw8_105 : Cond.fieldLink RX8 105 (TX8 0).1 (TX8 0).2.1 (TX8 0).2.2.1 ∈ BIG := bg5 68 (by decide +kernel) rfl
theorem f8_105 : FLk RX8 105 8 0 := ⟨RX8, TX8, 52, rfl, by decide, rfl, ly8, fw8_105⟩
/-- RoundedSumsModel.thrown -/
theorem g8_105 {E : Ev} {cc : ByteArray} {nL : Nat} {ret : Option FieldType} {R : Room} {cl sl : Nat} {Z : Zt} {pc : Nat} {L st : List Vv} {M : Mm} {N : Nn} {a b : Nat} (hd : decode cc pc = .ok (.getfield 105, 3)) (k : Go E RX8 cc nL ret R cl sl Z (pc + 3) L (vi (M (29, a, b) 0) :: st) M N) : Go E RX8 cc nL ret R cl sl Z (pc) L (vr (29, a, b) :: st) M N := go_get0 hd f8_105 rfl rfl rfl k
theorem q8_105 : PLk RX8 105 8 0 (.int) := ⟨RX8, TX8, 52, rfl, by decide, rfl, ly8, fw8_105, ⟨tyX8, tyX8_ok⟩, nmX8, rfl, by decide +kernel⟩
theorem p8_105 {E : Ev} {cc : ByteArray} {nL : Nat} {ret : Option FieldType} {R : Room} {cl sl : Nat} {Z : Zt} {pc : Nat} {L st : List Vv} {M : Mm} {N : Nn} {a b : Nat} {x : Int} (hd : decode cc pc = .ok (.putfield 105, 3)) (k : Go E RX8 cc nL ret R cl sl Z (pc + 3) L (st) (wr M (29, a, b) 0 x) N) : Go E RX8 cc nL ret R cl sl Z (pc) L (vi x :: vr (29, a, b) :: st) M N := go_put0 hd q8_105 rfl rfl rfl rfl rfl k
theorem fw8_108 : Cond.fieldLink RX8 108 (TX8 1).1 (TX8 1).2.1 (TX8 1).2.2.1 ∈ BIG := bg5 69 (by decide +kernel) rfl
theorem f8_108 : FLk RX8 108 8 1 := ⟨RX8, TX8, 52, rfl, by decide, rfl, ly8, fw8_108⟩
/-- RoundedSumsModel.trouble -/
theorem g8_108 {E : Ev} {cc : ByteArray} {nL : Nat} {ret : Option FieldType} {R : Room} {cl sl : Nat} {Z : Zt} {pc : Nat} {L st : List Vv} {M : Mm} {N : Nn} {a b : Nat} (hd : decode cc pc = .ok (.getfield 108, 3)) (k : Go E RX8 cc nL ret R cl sl Z (pc + 3) L (vi (M (29, a, b) 1) :: st) M N) : Go E RX8 cc nL ret R cl sl Z (pc) L (vr (29, a, b) :: st) M N := go_get0 hd f8_108 rfl rfl rfl k
theorem q8_108 : PLk RX8 108 8 1 (.int) := ⟨RX8, TX8, 52, rfl, by decide, rfl, ly8, fw8_108, ⟨tyX8, tyX8_ok⟩, nmX8, rfl, by decide +kernel⟩
theorem p8_108 {E : Ev} {cc : ByteArray} {nL : Nat} {ret : Option FieldType} {R : Room} {cl sl : Nat} {Z : Zt} {pc : Nat} {L st : List Vv} {M : Mm} {N : Nn} {a b : Nat} {x : Int} (hd : decode cc pc = .ok (.putfield 108, 3)) (k : Go E RX8 cc nL ret R cl sl Z (pc + 3) L (st) (wr M (29, a, b) 1 x) N) : Go E RX8 cc nL ret R cl sl Z (pc) L (vi x :: vr (29, a, b) :: st) M N := go_put0 hd q8_108 rfl rfl rfl rfl rfl k
theorem fw8_113 : Cond.fieldLink RX8 113 (TX8 5).1 (TX8 5).2.1 (TX8 5).2.2.1 ∈ BIG := bg5 73 (by decide +kernel) rfl
theorem f8_113 : FLk RX8 113 8 5 := ⟨RX8, TX8, 52, rfl, by decide, rfl, ly8, fw8_113⟩
/-- RoundedSumsModel.taped -/
theorem g8_113 {E : Ev} {cc : ByteArray} {nL : Nat} {ret : Option FieldType} {R : Room} {cl sl : Nat} {Z : Zt} {pc : Nat} {L st : List Vv} {M : Mm} {N : Nn} {a b : Nat} (hd : decode cc pc = .ok (.getfield 113, 3)) (k : Go E RX8 cc nL ret R cl sl Z (pc + 3) L (vi (M (29, a, b) 5) :: st) M N) : Go E RX8 cc nL ret R cl sl Z (pc) L (vr (29, a, b) :: st) M N := go_get0 hd f8_113 rfl rfl rfl k
theorem q8_113 : PLk RX8 113 8 5 (.int) := ⟨RX8, TX8, 52, rfl, by decide, rfl, ly8, fw8_113, ⟨tyX8, tyX8_ok⟩, nmX8, rfl, by decide +kernel⟩
theorem p8_113 {E : Ev} {cc : ByteArray} {nL : Nat} {ret : Option FieldType} {R : Room} {cl sl : Nat} {Z : Zt} {pc : Nat} {L st : List Vv} {M : Mm} {N : Nn} {a b : Nat} {x : Int} (hd : decode cc pc = .ok (.putfield 113, 3)) (k : Go E RX8 cc nL ret R cl sl Z (pc + 3) L (st) (wr M (29, a, b) 5 x) N) : Go E RX8 cc nL ret R cl sl Z (pc) L (vi x :: vr (29, a, b) :: st) M N := go_put0 hd q8_113 rfl rfl rfl rfl rfl k
theorem fw8_120 : Cond.fieldLink RX8 120 (TX8 15).1 (TX8 15).2.1 (TX8 15).2.2.1 ∈ BIG := bg5 83 (by decide +kernel) rfl
theorem f8_120 : FLk RX8 120 8 15 := ⟨RX8, TX8, 52, rfl, by decide, rfl, ly8, fw8_120⟩
/-- RoundedSumsModel.textLong -/
theorem g8_120 {E : Ev} {cc : ByteArray} {nL : Nat} {ret : Option FieldType} {R : Room} {cl sl : Nat} {Z : Zt} {pc : Nat} {L st : List Vv} {M : Mm} {N : Nn} {a b : Nat} (hd : decode cc pc = .ok (.getfield 120, 3)) (k : Go E RX8 cc nL ret R cl sl Z (pc + 3) L (vi (M (29, a, b) 15) :: st) M N) : Go E RX8 cc nL ret R cl sl Z (pc) L (vr (29, a, b) :: st) M N := go_get0 hd f8_120 rfl rfl rfl k
theorem q8_120 : PLk RX8 120 8 15 (.int) := ⟨RX8, TX8, 52, rfl, by decide, rfl, ly8, fw8_120, ⟨tyX8, tyX8_ok⟩, nmX8, rfl, by decide +kernel⟩
theorem p8_120 {E : Ev} {cc : ByteArray} {nL : Nat} {ret : Option FieldType} {R : Room} {cl sl : Nat} {Z : Zt} {pc : Nat} {L st : List Vv} {M : Mm} {N : Nn} {a b : Nat} {x : Int} (hd : decode cc pc = .ok (.putfield 120, 3)) (k : Go E RX8 cc nL ret R cl sl Z (pc + 3) L (st) (wr M (29, a, b) 15 x) N) : Go E RX8 cc nL ret R cl sl Z (pc) L (vi x :: vr (29, a, b) :: st) M N := go_put0 hd q8_120 rfl rfl rfl rfl rfl k
theorem fw8_123 : Cond.fieldLink RX8 123 (TX8 17).1 (TX8 17).2.1 (TX8 17).2.2.1 ∈ BIG := bg5 85 (by decide +kernel) rfl
theorem f8_123 : FLk RX8 123 8 17 := ⟨RX8, TX8, 52, rfl, by decide, rfl, ly8, fw8_123⟩
/-- RoundedSumsModel.spot -/
theorem g8_123 {E : Ev} {cc : ByteArray} {nL : Nat} {ret : Option FieldType} {R : Room} {cl sl : Nat} {Z : Zt} {pc : Nat} {L st : List Vv} {M : Mm} {N : Nn} {a b : Nat} (hd : decode cc pc = .ok (.getfield 123, 3)) (k : Go E RX8 cc nL ret R cl sl Z (pc + 3) L (vi (M (29, a, b) 17) :: st) M N) : Go E RX8 cc nL ret R cl sl Z (pc) L (vr (29, a, b) :: st) M N := go_get0 hd f8_123 rfl rfl rfl k
theorem q8_123 : PLk RX8 123 8 17 (.int) := ⟨RX8, TX8, 52, rfl, by decide, rfl, ly8, fw8_123, ⟨tyX8, tyX8_ok⟩, nmX8, rfl, by decide +kernel⟩
theorem p8_123 {E : Ev} {cc : ByteArray} {nL : Nat} {ret : Option FieldType} {R : Room} {cl sl : Nat} {Z : Zt} {pc : Nat} {L st : List Vv} {M : Mm} {N : Nn} {a b : Nat} {x : Int} (hd : decode cc pc = .ok (.putfield 123, 3)) (k : Go E RX8 cc nL ret R cl sl Z (pc + 3) L (st) (wr M (29, a, b) 17 x) N) : Go E RX8 cc nL ret R cl sl Z (pc) L (vi x :: vr (29, a, b) :: st) M N := go_put0 hd q8_123 rfl rfl rfl rfl rfl k
theorem fw8_130 : Cond.fieldLink RX8 130 (TX8 16).1 (TX8 16).2.1 (TX8 16).2.2.1 ∈ BIG := bg5 84 (by decide +kernel) rfl
theorem f8_130 : FLk RX8 130 8 16 := ⟨RX8, TX8, 52, rfl, by decide, rfl, ly8, fw8_130⟩
/-- RoundedSumsModel.place -/
theorem g8_130 {E : Ev} {cc : ByteArray} {nL : Nat} {ret : Option FieldType} {R : Room} {cl sl : Nat} {Z : Zt} {pc : Nat} {L st : List Vv} {M : Mm} {N : Nn} {a b : Nat} (hd : decode cc pc = .ok (.getfield 130, 3)) (k : Go E RX8 cc nL ret R cl sl Z (pc + 3) L (vi (M (29, a, b) 16) :: st) M N) : Go E RX8 cc nL ret R cl sl Z (pc) L (vr (29, a, b) :: st) M N := go_get0 hd f8_130 rfl rfl rfl k
theorem q8_130 : PLk RX8 130 8 16 (.int) := ⟨RX8, TX8, 52, rfl, by decide, rfl, ly8, fw8_130, ⟨tyX8, tyX8_ok⟩, nmX8, rfl, by decide +kernel⟩
theorem p8_130 {E : Ev} {cc : ByteArray} {nL : Nat} {ret : Option FieldType} {R : Room} {cl sl : Nat} {Z : Zt} {pc : Nat} {L st : List Vv} {M : Mm} {N : Nn} {a b : Nat} {x : Int} (hd : decode cc pc = .ok (.putfield 130, 3)) (k : Go E RX8 cc nL ret R cl sl Z (pc + 3) L (st) (wr M (29, a, b) 16 x) N) : Go E RX8 cc nL ret R cl sl Z (pc) L (vi x :: vr (29, a, b) :: st) M N := go_put0 hd q8_130 rfl rfl rfl rfl rfl k
theorem fw8_133 : Cond.fieldLink RX8 133 (TX8 18).1 (TX8 18).2.1 (TX8 18).2.2.1 ∈ BIG := bg5 86 (by decide +kernel) rfl
theorem f8_133 : FLk RX8 133 8 18 := ⟨RX8, TX8, 52, rfl, by decide, rfl, ly8, fw8_133⟩
/-- RoundedSumsModel.token -/
theorem g8_133 {E : Ev} {cc : ByteArray} {nL : Nat} {ret : Option FieldType} {R : Room} {cl sl : Nat} {Z : Zt} {pc : Nat} {L st : List Vv} {M : Mm} {N : Nn} {a b : Nat} (hd : decode cc pc = .ok (.getfield 133, 3)) (k : Go E RX8 cc nL ret R cl sl Z (pc + 3) L (vi (M (29, a, b) 18) :: st) M N) : Go E RX8 cc nL ret R cl sl Z (pc) L (vr (29, a, b) :: st) M N := go_get0 hd f8_133 rfl rfl rfl k
theorem q8_133 : PLk RX8 133 8 18 (.int) := ⟨RX8, TX8, 52, rfl, by decide, rfl, ly8, fw8_133, ⟨tyX8, tyX8_ok⟩, nmX8, rfl, by decide +kernel⟩
theorem p8_133 {E : Ev} {cc : ByteArray} {nL : Nat} {ret : Option FieldType} {R : Room} {cl sl : Nat} {Z : Zt} {pc : Nat} {L st : List Vv} {M : Mm} {N : Nn} {a b : Nat} {x : Int} (hd : decode cc pc = .ok (.putfield 133, 3)) (k : Go E RX8 cc nL ret R cl sl Z (pc + 3) L (st) (wr M (29, a, b) 18 x) N) : Go E RX8 cc nL ret R cl sl Z (pc) L (vi x :: vr (29, a, b) :: st) M N := go_put0 hd q8_133 rfl rfl rfl rfl rfl k
theorem fw8_148 : Cond.fieldLink RX8 148 (TX8 19).1 (TX8 19).2.1 (TX8 19).2.2.1 ∈ BIG := bg5 87 (by decide +kernel) rfl
theorem f8_148 : FLk RX8 148 8 19 := ⟨RX8, TX8, 52, rfl, by decide, rfl, ly8, fw8_148⟩
/-- RoundedSumsModel.whole -/
theorem g8_148 {E : Ev} {cc : ByteArray} {nL : Nat} {ret : Option FieldType} {R : Room} {cl sl : Nat} {Z : Zt} {pc : Nat} {L st : List Vv} {M : Mm} {N : Nn} {a b : Nat} (hd : decode cc pc = .ok (.getfield 148, 3)) (k : Go E RX8 cc nL ret R cl sl Z (pc + 3) L (vi (M (29, a, b) 19) :: st) M N) : Go E RX8 cc nL ret R cl sl Z (pc) L (vr (29, a, b) :: st) M N := go_get0 hd f8_148 rfl rfl rfl k
theorem q8_148 : PLk RX8 148 8 19 (.int) := ⟨RX8, TX8, 52, rfl, by decide, rfl, ly8, fw8_148, ⟨tyX8, tyX8_ok⟩, nmX8, rfl, by decide +kernel⟩
theorem p8_148 {E : Ev} {cc : ByteArray} {nL : Nat} {ret : Option FieldType} {R : Room} {cl sl : Nat} {Z : Zt} {pc : Nat} {L st : List Vv} {M : Mm} {N : Nn} {a b : Nat} {x : Int} (hd : decode cc pc = .ok (.putfield 148, 3)) (k : Go E RX8 cc nL ret R cl sl Z (pc + 3) L (st) (wr M (29, a, b) 19 x) N) : Go E RX8 cc nL ret R cl sl Z (pc) L (vi x :: vr (29, a, b) :: st) M N := go_put0 hd q8_148 rfl rfl rfl rfl rfl k
theorem fw8_161 : Cond.fieldLink RX8 161 (TX8 20).1 (TX8 20).2.1 (TX8 20).2.2.1 ∈ BIG := bg5 88 (by decide +kernel) rfl
theorem f8_161 : FLk RX8 161 8 20 := ⟨RX8, TX8, 52, rfl, by decide, rfl, ly8, fw8_161⟩
/-- RoundedSumsModel.readFault -/
theorem g8_161 {E : Ev} {cc : ByteArray} {nL : Nat} {ret : Option FieldType} {R : Room} {cl sl : Nat} {Z : Zt} {pc : Nat} {L st : List Vv} {M : Mm} {N : Nn} {a b : Nat} (hd : decode cc pc = .ok (.getfield 161, 3)) (k : Go E RX8 cc nL ret R cl sl Z (pc + 3) L (vi (M (29, a, b) 20) :: st) M N) : Go E RX8 cc nL ret R cl sl Z (pc) L (vr (29, a, b) :: st) M N := go_get0 hd f8_161 rfl rfl rfl k
theorem q8_161 : PLk RX8 161 8 20 (.int) := ⟨RX8, TX8, 52, rfl, by decide, rfl, ly8, fw8_161, ⟨tyX8, tyX8_ok⟩, nmX8, rfl, by decide +kernel⟩
theorem p8_161 {E : Ev} {cc : ByteArray} {nL : Nat} {ret : Option FieldType} {R : Room} {cl sl : Nat} {Z : Zt} {pc : Nat} {L st : List Vv} {M : Mm} {N : Nn} {a b : Nat} {x : Int} (hd : decode cc pc = .ok (.putfield 161, 3)) (k : Go E RX8 cc nL ret R cl sl Z (pc + 3) L (st) (wr M (29, a, b) 20 x) N) : Go E RX8 cc nL ret R cl sl Z (pc) L (vi x :: vr (29, a, b) :: st) M N := go_put0 hd q8_161 rfl rfl rfl rfl rfl k
theorem fw8_164 : Cond.fieldLink RX8 164 (TX8 21).1 (TX8 21).2.1 (TX8 21).2.2.1 ∈ BIG := bg5 89 (by decide +kernel) rfl
theorem f8_164 : FLk RX8 164 8 21 := ⟨RX8, TX8, 52, rfl, by decide, rfl, ly8, fw8_164⟩
/-- RoundedSumsModel.readPlace -/
theorem g8_164 {E : Ev} {cc : ByteArray} {nL : Nat} {ret : Option FieldType} {R : Room} {cl sl : Nat} {Z : Zt} {pc : Nat} {L st : List Vv} {M : Mm} {N : Nn} {a b : Nat} (hd : decode cc pc = .ok (.getfield 164, 3)) (k : Go E RX8 cc nL ret R cl sl Z (pc + 3) L (vi (M (29, a, b) 21) :: st) M N) : Go E RX8 cc nL ret R cl sl Z (pc) L (vr (29, a, b) :: st) M N := go_get0 hd f8_164 rfl rfl rfl k
theorem q8_164 : PLk RX8 164 8 21 (.int) := ⟨RX8, TX8, 52, rfl, by decide, rfl, ly8, fw8_164, ⟨tyX8, tyX8_ok⟩, nmX8, rfl, by decide +kernel⟩
theorem p8_164 {E : Ev} {cc : ByteArray} {nL : Nat} {ret : Option FieldType} {R : Room} {cl sl : Nat} {Z : Zt} {pc : Nat} {L st : List Vv} {M : Mm} {N : Nn} {a b : Nat} {x : Int} (hd : decode cc pc = .ok (.putfield 164, 3)) (k : Go E RX8 cc nL ret R cl sl Z (pc + 3) L (st) (wr M (29, a, b) 21 x) N) : Go E RX8 cc nL ret R cl sl Z (pc) L (vi x :: vr (29, a, b) :: st) M N := go_put0 hd q8_164 rfl rfl rfl rfl rfl k
theorem fw8_178 : Cond.fieldLink RX8 178 (TX8 26).1 (TX8 26).2.1 (TX8 26).2.2.1 ∈ BIG := bg5 94 (by decide +kernel) rfl
theorem f8_178 : FLk RX8 178 8 26 := ⟨RX8, TX8, 52, rfl, by decide, rfl, ly8, fw8_178⟩
/-- RoundedSumsModel.readValue -/
theorem g8_178 {E : Ev} {cc : ByteArray} {nL : Nat} {ret : Option FieldType} {R : Room} {cl sl : Nat} {Z : Zt} {pc : Nat} {L st : List Vv} {M : Mm} {N : Nn} {a b : Nat} (hd : decode cc pc = .ok (.getfield 178, 3)) (k : Go E RX8 cc nL ret R cl sl Z (pc + 3) L (vi (M (29, a, b) 26) :: st) M N) : Go E RX8 cc nL ret R cl sl Z (pc) L (vr (29, a, b) :: st) M N := go_get0 hd f8_178 rfl rfl rfl k
theorem q8_178 : PLk RX8 178 8 26 (.int) := ⟨RX8, TX8, 52, rfl, by decide, rfl, ly8, fw8_178, ⟨tyX8, tyX8_ok⟩, nmX8, rfl, by decide +kernel⟩
theorem p8_178 {E : Ev} {cc : ByteArray} {nL : Nat} {ret : Option FieldType} {R : Room} {cl sl : Nat} {Z : Zt} {pc : Nat} {L st : List Vv} {M : Mm} {N : Nn} {a b : Nat} {x : Int} (hd : decode cc pc = .ok (.putfield 178, 3)) (k : Go E RX8 cc nL ret R cl sl Z (pc + 3) L (st) (wr M (29, a, b) 26 x) N) : Go E RX8 cc nL ret R cl sl Z (pc) L (vi x :: vr (29, a, b) :: st) M N := go_put0 hd q8_178 rfl rfl rfl rfl rfl k
theorem fw8_199 : Cond.fieldLink RX8 199 (TX8 22).1 (TX8 22).2.1 (TX8 22).2.2.1 ∈ BIG := bg5 90 (by decide +kernel) rfl
theorem f8_199 : FLk RX8 199 8 22 := ⟨RX8, TX8, 52, rfl, by decide, rfl, ly8, fw8_199⟩
/-- RoundedSumsModel.readMany -/
theorem g8_199 {E : Ev} {cc : ByteArray} {nL : Nat} {ret : Option FieldType} {R : Room} {cl sl : Nat} {Z : Zt} {pc : Nat} {L st : List Vv} {M : Mm} {N : Nn} {a b : Nat} (hd : decode cc pc = .ok (.getfield 199, 3)) (k : Go E RX8 cc nL ret R cl sl Z (pc + 3) L (vi (M (29, a, b) 22) :: st) M N) : Go E RX8 cc nL ret R cl sl Z (pc) L (vr (29, a, b) :: st) M N := go_get0 hd f8_199 rfl rfl rfl k
theorem q8_199 : PLk RX8 199 8 22 (.int) := ⟨RX8, TX8, 52, rfl, by decide, rfl, ly8, fw8_199, ⟨tyX8, tyX8_ok⟩, nmX8, rfl, by decide +kernel⟩
theorem p8_199 {E : Ev} {cc : ByteArray} {nL : Nat} {ret : Option FieldType} {R : Room} {cl sl : Nat} {Z : Zt} {pc : Nat} {L st : List Vv} {M : Mm} {N : Nn} {a b : Nat} {x : Int} (hd : decode cc pc = .ok (.putfield 199, 3)) (k : Go E RX8 cc nL ret R cl sl Z (pc + 3) L (st) (wr M (29, a, b) 22 x) N) : Go E RX8 cc nL ret R cl sl Z (pc) L (vi x :: vr (29, a, b) :: st) M N := go_put0 hd q8_199 rfl rfl rfl rfl rfl k
theorem fw8_208 : Cond.fieldLink RX8 208 (TX8 23).1 (TX8 23).2.1 (TX8 23).2.2.1 ∈ BIG := bg5 91 (by decide +kernel) rfl
theorem f8_208 : FLk RX8 208 8 23 := ⟨RX8, TX8, 52, rfl, by decide, rfl, ly8, fw8_208⟩
/-- RoundedSumsModel.readInputs -/
theorem g8_208 {E : Ev} {cc : ByteArray} {nL : Nat} {ret : Option FieldType} {R : Room} {cl sl : Nat} {Z : Zt} {pc : Nat} {L st : List Vv} {M : Mm} {N : Nn} {a b : Nat} (hd : decode cc pc = .ok (.getfield 208, 3)) (k : Go E RX8 cc nL ret R cl sl Z (pc + 3) L (vi (M (29, a, b) 23) :: st) M N) : Go E RX8 cc nL ret R cl sl Z (pc) L (vr (29, a, b) :: st) M N := go_get0 hd f8_208 rfl rfl rfl k
theorem q8_208 : PLk RX8 208 8 23 (.int) := ⟨RX8, TX8, 52, rfl, by decide, rfl, ly8, fw8_208, ⟨tyX8, tyX8_ok⟩, nmX8, rfl, by decide +kernel⟩
theorem p8_208 {E : Ev} {cc : ByteArray} {nL : Nat} {ret : Option FieldType} {R : Room} {cl sl : Nat} {Z : Zt} {pc : Nat} {L st : List Vv} {M : Mm} {N : Nn} {a b : Nat} {x : Int} (hd : decode cc pc = .ok (.putfield 208, 3)) (k : Go E RX8 cc nL ret R cl sl Z (pc + 3) L (st) (wr M (29, a, b) 23 x) N) : Go E RX8 cc nL ret R cl sl Z (pc) L (vi x :: vr (29, a, b) :: st) M N := go_put0 hd q8_208 rfl rfl rfl rfl rfl k
theorem fw8_259 : Cond.fieldLink RX8 259 (TX8 6).1 (TX8 6).2.1 (TX8 6).2.2.1 ∈ BIG := bg5 74 (by decide +kernel) rfl
theorem f8_259 : FLk RX8 259 8 6 := ⟨RX8, TX8, 52, rfl, by decide, rfl, ly8, fw8_259⟩
/-- RoundedSumsModel.variables -/
theorem g8_259 {E : Ev} {cc : ByteArray} {nL : Nat} {ret : Option FieldType} {R : Room} {cl sl : Nat} {Z : Zt} {pc : Nat} {L st : List Vv} {M : Mm} {N : Nn} {a b : Nat} (hd : decode cc pc = .ok (.getfield 259, 3)) (k : Go E RX8 cc nL ret R cl sl Z (pc + 3) L (vi (M (29, a, b) 6) :: st) M N) : Go E RX8 cc nL ret R cl sl Z (pc) L (vr (29, a, b) :: st) M N := go_get0 hd f8_259 rfl rfl rfl k
theorem q8_259 : PLk RX8 259 8 6 (.int) := ⟨RX8, TX8, 52, rfl, by decide, rfl, ly8, fw8_259, ⟨tyX8, tyX8_ok⟩, nmX8, rfl, by decide +kernel⟩
theorem p8_259 {E : Ev} {cc : ByteArray} {nL : Nat} {ret : Option FieldType} {R : Room} {cl sl : Nat} {Z : Zt} {pc : Nat} {L st : List Vv} {M : Mm} {N : Nn} {a b : Nat} {x : Int} (hd : decode cc pc = .ok (.putfield 259, 3)) (k : Go E RX8 cc nL ret R cl sl Z (pc + 3) L (st) (wr M (29, a, b) 6 x) N) : Go E RX8 cc nL ret R cl sl Z (pc) L (vi x :: vr (29, a, b) :: st) M N := go_put0 hd q8_259 rfl rfl rfl rfl rfl k
theorem fw8_272 : Cond.fieldLink RX8 272 (TX8 2).1 (TX8 2).2.1 (TX8 2).2.2.1 ∈ BIG := bg5 70 (by decide +kernel) rfl
theorem f8_272 : FLk RX8 272 8 2 := ⟨RX8, TX8, 52, rfl, by decide, rfl, ly8, fw8_272⟩
/-- RoundedSumsModel.fault -/
theorem g8_272 {E : Ev} {cc : ByteArray} {nL : Nat} {ret : Option FieldType} {R : Room} {cl sl : Nat} {Z : Zt} {pc : Nat} {L st : List Vv} {M : Mm} {N : Nn} {a b : Nat} (hd : decode cc pc = .ok (.getfield 272, 3)) (k : Go E RX8 cc nL ret R cl sl Z (pc + 3) L (vi (M (29, a, b) 2) :: st) M N) : Go E RX8 cc nL ret R cl sl Z (pc) L (vr (29, a, b) :: st) M N := go_get0 hd f8_272 rfl rfl rfl k
theorem q8_272 : PLk RX8 272 8 2 (.int) := ⟨RX8, TX8, 52, rfl, by decide, rfl, ly8, fw8_272, ⟨tyX8, tyX8_ok⟩, nmX8, rfl, by decide +kernel⟩
theorem p8_272 {E : Ev} {cc : ByteArray} {nL : Nat} {ret : Option FieldType} {R : Room} {cl sl : Nat} {Z : Zt} {pc : Nat} {L st : List Vv} {M : Mm} {N : Nn} {a b : Nat} {x : Int} (hd : decode cc pc = .ok (.putfield 272, 3)) (k : Go E RX8 cc nL ret R cl sl Z (pc + 3) L (st) (wr M (29, a, b) 2 x) N) : Go E RX8 cc nL ret R cl sl Z (pc) L (vi x :: vr (29, a, b) :: st) M N := go_put0 hd q8_272 rfl rfl rfl rfl rfl k
theorem fw8_281 : Cond.fieldLink RX8 281 (TX8 14).1 (TX8 14).2.1 (TX8 14).2.2.1 ∈ BIG := bg5 82 (by decide +kernel) rfl
theorem f8_281 : FLk RX8 281 8 14 := ⟨RX8, TX8, 52, rfl, by decide, rfl, ly8, fw8_281⟩
/-- RoundedSumsModel.isTold -/
theorem g8_281 {E : Ev} {cc : ByteArray} {nL : Nat} {ret : Option FieldType} {R : Room} {cl sl : Nat} {Z : Zt} {pc : Nat} {L st : List Vv} {M : Mm} {N : Nn} {a b : Nat} (hd : decode cc pc = .ok (.getfield 281, 3)) (k : Go E RX8 cc nL ret R cl sl Z (pc + 3) L (vi (M (29, a, b) 14) :: st) M N) : Go E RX8 cc nL ret R cl sl Z (pc) L (vr (29, a, b) :: st) M N := go_get0 hd f8_281 rfl rfl rfl k
theorem q8_281 : PLk RX8 281 8 14 (.boolean) := ⟨RX8, TX8, 52, rfl, by decide, rfl, ly8, fw8_281, ⟨tyX8, tyX8_ok⟩, nmX8, rfl, by decide +kernel⟩
theorem p8_281 {E : Ev} {cc : ByteArray} {nL : Nat} {ret : Option FieldType} {R : Room} {cl sl : Nat} {Z : Zt} {pc : Nat} {L st : List Vv} {M : Mm} {N : Nn} {a b : Nat} {x : Int} (hd : decode cc pc = .ok (.putfield 281, 3)) (hz : x = 0 ∨ x = 1) (k : Go E RX8 cc nL ret R cl sl Z (pc + 3) L (st) (wr M (29, a, b) 14 x) N) : Go E RX8 cc nL ret R cl sl Z (pc) L (vi x :: vr (29, a, b) :: st) M N := go_put0 hd q8_281 rfl rfl rfl (by rcases hz with rfl | rfl <;> rfl) (by rcases hz with rfl | rfl <;> rfl) k
theorem fw8_302 : Cond.fieldLink RX8 302 (TX8 34).1 (TX8 34).2.1 (TX8 34).2.2.1 ∈ BIG := bg5 102 (by decide +kernel) rfl
theorem f8_302 : FLk RX8 302 8 34 := ⟨RX8, TX8, 52, rfl, by decide, rfl, ly8, fw8_302⟩
/-- RoundedSumsModel.noises -/
theorem g8_302 {E : Ev} {cc : ByteArray} {nL : Nat} {ret : Option FieldType} {R : Room} {cl sl : Nat} {Z : Zt} {pc : Nat} {L st : List Vv} {M : Mm} {N : Nn} {a b : Nat} (hd : decode cc pc = .ok (.getfield 302, 3)) (k : Go E RX8 cc nL ret R cl sl Z (pc + 3) L (vi (M (29, a, b) 34) :: st) M N) : Go E RX8 cc nL ret R cl sl Z (pc) L (vr (29, a, b) :: st) M N := go_get0 hd f8_302 rfl rfl rfl k
theorem q8_302 : PLk RX8 302 8 34 (.int) := ⟨RX8, TX8, 52, rfl, by decide, rfl, ly8, fw8_302, ⟨tyX8, tyX8_ok⟩, nmX8, rfl, by decide +kernel⟩
theorem p8_302 {E : Ev} {cc : ByteArray} {nL : Nat} {ret : Option FieldType} {R : Room} {cl sl : Nat} {Z : Zt} {pc : Nat} {L st : List Vv} {M : Mm} {N : Nn} {a b : Nat} {x : Int} (hd : decode cc pc = .ok (.putfield 302, 3)) (k : Go E RX8 cc nL ret R cl sl Z (pc + 3) L (st) (wr M (29, a, b) 34 x) N) : Go E RX8 cc nL ret R cl sl Z (pc) L (vi x :: vr (29, a, b) :: st) M N := go_put0 hd q8_302 rfl rfl rfl rfl rfl k
theorem fw8_365 : Cond.fieldLink RX8 365 (TX8 37).1 (TX8 37).2.1 (TX8 37).2.2.1 ∈ BIG := bg5 105 (by decide +kernel) rfl
theorem f8_365 : FLk RX8 365 8 37 := ⟨RX8, TX8, 52, rfl, by decide, rfl, ly8, fw8_365⟩
/-- RoundedSumsModel.laid -/
theorem g8_365 {E : Ev} {cc : ByteArray} {nL : Nat} {ret : Option FieldType} {R : Room} {cl sl : Nat} {Z : Zt} {pc : Nat} {L st : List Vv} {M : Mm} {N : Nn} {a b : Nat} (hd : decode cc pc = .ok (.getfield 365, 3)) (k : Go E RX8 cc nL ret R cl sl Z (pc + 3) L (vi (M (29, a, b) 37) :: st) M N) : Go E RX8 cc nL ret R cl sl Z (pc) L (vr (29, a, b) :: st) M N := go_get0 hd f8_365 rfl rfl rfl k
theorem q8_365 : PLk RX8 365 8 37 (.int) := ⟨RX8, TX8, 52, rfl, by decide, rfl, ly8, fw8_365, ⟨tyX8, tyX8_ok⟩, nmX8, rfl, by decide +kernel⟩
theorem p8_365 {E : Ev} {cc : ByteArray} {nL : Nat} {ret : Option FieldType} {R : Room} {cl sl : Nat} {Z : Zt} {pc : Nat} {L st : List Vv} {M : Mm} {N : Nn} {a b : Nat} {x : Int} (hd : decode cc pc = .ok (.putfield 365, 3)) (k : Go E RX8 cc nL ret R cl sl Z (pc + 3) L (st) (wr M (29, a, b) 37 x) N) : Go E RX8 cc nL ret R cl sl Z (pc) L (vi x :: vr (29, a, b) :: st) M N := go_put0 hd q8_365 rfl rfl rfl rfl rfl k
theorem fw8_372 : Cond.fieldLink RX8 372 (TX8 42).1 (TX8 42).2.1 (TX8 42).2.2.1 ∈ BIG := bg5 110 (by decide +kernel) rfl
theorem f8_372 : FLk RX8 372 8 42 := ⟨RX8, TX8, 52, rfl, by decide, rfl, ly8, fw8_372⟩
/-- RoundedSumsModel.joinedMany -/
theorem g8_372 {E : Ev} {cc : ByteArray} {nL : Nat} {ret : Option FieldType} {R : Room} {cl sl : Nat} {Z : Zt} {pc : Nat} {L st : List Vv} {M : Mm} {N : Nn} {a b : Nat} (hd : decode cc pc = .ok (.getfield 372, 3)) (k : Go E RX8 cc nL ret R cl sl Z (pc + 3) L (vi (M (29, a, b) 42) :: st) M N) : Go E RX8 cc nL ret R cl sl Z (pc) L (vr (29, a, b) :: st) M N := go_get0 hd f8_372 rfl rfl rfl k
theorem q8_372 : PLk RX8 372 8 42 (.int) := ⟨RX8, TX8, 52, rfl, by decide, rfl, ly8, fw8_372, ⟨tyX8, tyX8_ok⟩, nmX8, rfl, by decide +kernel⟩
theorem p8_372 {E : Ev} {cc : ByteArray} {nL : Nat} {ret : Option FieldType} {R : Room} {cl sl : Nat} {Z : Zt} {pc : Nat} {L st : List Vv} {M : Mm} {N : Nn} {a b : Nat} {x : Int} (hd : decode cc pc = .ok (.putfield 372, 3)) (k : Go E RX8 cc nL ret R cl sl Z (pc + 3) L (st) (wr M (29, a, b) 42 x) N) : Go E RX8 cc nL ret R cl sl Z (pc) L (vi x :: vr (29, a, b) :: st) M N := go_put0 hd q8_372 rfl rfl rfl rfl rfl k
theorem fw8_445 : Cond.fieldLink RX8 445 (TX8 47).1 (TX8 47).2.1 (TX8 47).2.2.1 ∈ BIG := bg5 115 (by decide +kernel) rfl
theorem f8_445 : FLk RX8 445 8 47 := ⟨RX8, TX8, 52, rfl, by decide, rfl, ly8, fw8_445⟩
/-- RoundedSumsModel.pieces -/
theorem g8_445 {E : Ev} {cc : ByteArray} {nL : Nat} {ret : Option FieldType} {R : Room} {cl sl : Nat} {Z : Zt} {pc : Nat} {L st : List Vv} {M : Mm} {N : Nn} {a b : Nat} (hd : decode cc pc = .ok (.getfield 445, 3)) (k : Go E RX8 cc nL ret R cl sl Z (pc + 3) L (vi (M (29, a, b) 47) :: st) M N) : Go E RX8 cc nL ret R cl sl Z (pc) L (vr (29, a, b) :: st) M N := go_get0 hd f8_445 rfl rfl rfl k
theorem q8_445 : PLk RX8 445 8 47 (.int) := ⟨RX8, TX8, 52, rfl, by decide, rfl, ly8, fw8_445, ⟨tyX8, tyX8_ok⟩, nmX8, rfl, by decide +kernel⟩
theorem p8_445 {E : Ev} {cc : ByteArray} {nL : Nat} {ret : Option FieldType} {R : Room} {cl sl : Nat} {Z : Zt} {pc : Nat} {L st : List Vv} {M : Mm} {N : Nn} {a b : Nat} {x : Int} (hd : decode cc pc = .ok (.putfield 445, 3)) (k : Go E RX8 cc nL ret R cl sl Z (pc + 3) L (st) (wr M (29, a, b) 47 x) N) : Go E RX8 cc nL ret R cl sl Z (pc) L (vi x :: vr (29, a, b) :: st) M N := go_put0 hd q8_445 rfl rfl rfl rfl rfl k
theorem fw8_468 : Cond.fieldLink RX8 468 (TX8 48).1 (TX8 48).2.1 (TX8 48).2.2.1 ∈ BIG := bg5 116 (by decide +kernel) rfl
theorem f8_468 : FLk RX8 468 8 48 := ⟨RX8, TX8, 52, rfl, by decide, rfl, ly8, fw8_468⟩
/-- RoundedSumsModel.seed -/
theorem g8_468 {E : Ev} {cc : ByteArray} {nL : Nat} {ret : Option FieldType} {R : Room} {cl sl : Nat} {Z : Zt} {pc : Nat} {L st : List Vv} {M : Mm} {N : Nn} {a b : Nat} (hd : decode cc pc = .ok (.getfield 468, 3)) (k : Go E RX8 cc nL ret R cl sl Z (pc + 3) L (vi (M (29, a, b) 48) :: st) M N) : Go E RX8 cc nL ret R cl sl Z (pc) L (vr (29, a, b) :: st) M N := go_get0 hd f8_468 rfl rfl rfl k
theorem q8_468 : PLk RX8 468 8 48 (.int) := ⟨RX8, TX8, 52, rfl, by decide, rfl, ly8, fw8_468, ⟨tyX8, tyX8_ok⟩, nmX8, rfl, by decide +kernel⟩
theorem p8_468 {E : Ev} {cc : ByteArray} {nL : Nat} {ret : Option FieldType} {R : Room} {cl sl : Nat} {Z : Zt} {pc : Nat} {L st : List Vv} {M : Mm} {N : Nn} {a b : Nat} {x : Int} (hd : decode cc pc = .ok (.putfield 468, 3)) (k : Go E RX8 cc nL ret R cl sl Z (pc + 3) L (st) (wr M (29, a, b) 48 x) N) : Go E RX8 cc nL ret R cl sl Z (pc) L (vi x :: vr (29, a, b) :: st) M N := go_put0 hd q8_468 rfl rfl rfl rfl rfl k
theorem fw8_482 : Cond.fieldLink RX8 482 (TX8 50).1 (TX8 50).2.1 (TX8 50).2.2.1 ∈ BIG := bg5 118 (by decide +kernel) rfl
theorem f8_482 : FLk RX8 482 8 50 := ⟨RX8, TX8, 52, rfl, by decide, rfl, ly8, fw8_482⟩
/-- RoundedSumsModel.climbed -/
theorem g8_482 {E : Ev} {cc : ByteArray} {nL : Nat} {ret : Option FieldType} {R : Room} {cl sl : Nat} {Z : Zt} {pc : Nat} {L st : List Vv} {M : Mm} {N : Nn} {a b : Nat} (hd : decode cc pc = .ok (.getfield 482, 3)) (k : Go E RX8 cc nL ret R cl sl Z (pc + 3) L (vl (M (29, a, b) 50) :: st) M N) : Go E RX8 cc nL ret R cl sl Z (pc) L (vr (29, a, b) :: st) M N := go_get1 hd f8_482 rfl rfl rfl k
theorem q8_482 : PLk RX8 482 8 50 (.long) := ⟨RX8, TX8, 52, rfl, by decide, rfl, ly8, fw8_482, ⟨tyX8, tyX8_ok⟩, nmX8, rfl, by decide +kernel⟩
theorem p8_482 {E : Ev} {cc : ByteArray} {nL : Nat} {ret : Option FieldType} {R : Room} {cl sl : Nat} {Z : Zt} {pc : Nat} {L st : List Vv} {M : Mm} {N : Nn} {a b : Nat} {x : Int} (hd : decode cc pc = .ok (.putfield 482, 3)) (k : Go E RX8 cc nL ret R cl sl Z (pc + 3) L (st) (wr M (29, a, b) 50 x) N) : Go E RX8 cc nL ret R cl sl Z (pc) L (vl x :: vr (29, a, b) :: st) M N := go_put1 hd q8_482 rfl rfl rfl k
def rmH (h : Nat) : Room := { frames := h, cells := 0, slots := 0, locals := 40 * h }
theorem kyX7_putBytes : Cond.code yX7_putBytes cX7_putBytes 3 (none) ∈ BIG := bg2 112 (rfl) rfl
theorem kiyX7_putBytes : Cond.initialized yX7_putBytes.cls ∈ BIG := bg1 1 (by decide +kernel) rfl
theorem knyX7_putBytes : Cond.instanceMethod yX7_putBytes ∈ BIG := bg2 111 (by decide +kernel) rfl
theorem ksyX7_putBytes : Cond.selects yX7_putBytes.cls yX7_putBytes yX7_putBytes ∈ BIG := bgp (q := (yX7_putBytes, 12)) (List.mem_of_getElem? (i := 0) (by decide +kernel)) rfl
theorem mw7_70 : Cond.methodLink RX7 70 yX7_putBytes ∈ BIG := bg2 109 (by decide +kernel) rfl
theorem l7_70 : LkV RX7 70 7 yX7_putBytes cX7_putBytes 3 (none) 1 := ⟨mw7_70, knyX7_putBytes, ksyX7_putBytes, kiyX7_putBytes, kyX7_putBytes, ⟨_, rfl, rfl⟩, rfl, by decide +kernel, by decide +kernel, by decide +kernel⟩
/-- RoundedSums.putBytes -/
theorem v7_70 {E : Ev} {cc : ByteArray} {nL : Nat} {ret : Option FieldType} {R : Room} {cl sl : Nat} {Z : Zt} {pc : Nat} {L st : List Vv} {M : Mm} {N : Nn} {a b : Nat} {x0 : Int} {h : Nat} {P : Mm → Nn → Prop} (hd : decode cc pc = .ok (.invokevirtual 70, 3)) (hct : Nat.ble (ctL st) 8 = true) (hR : Nat.ble (h + 1) R.frames = true ∧ Nat.ble (8 + (3 + 11) + 40 * h) R.locals = true) (hcl : Nat.ble cl R.cells = true ∧ Nat.ble sl R.slots = true) (hc : Ct E yX7_putBytes cX7_putBytes 3 (none) (rmH h) [vr (3, a, b), vi x0] M N (qv P)) (k : ∀ M1 N1, P M1 N1 → Go E RX7 cc nL ret R cl sl Z (pc + 3) L (st) M1 N1) : Go E RX7 cc nL ret R cl sl Z (pc) L (vi x0 :: vr (3, a, b) :: st) M N := go_callV (As := [vi x0]) hd l7_70 rfl rfl rfl hct ⟨rfl, rfl⟩ ⟨Nat.le_of_ble_eq_true hR.1, Nat.le_of_ble_eq_true hR.2⟩ hc hcl (fun r M1 N1 h => by obtain ⟨rfl, h⟩ := h; exact k M1 N1 h)
theorem kyX7_none : Cond.code yX7_none cX7_none 2 ((some .int)) ∈ BIG := bg2 120 (rfl) rfl
theorem kiyX7_none : Cond.initialized yX7_none.cls ∈ BIG := bg1 1 (by decide +kernel) rfl
theorem knyX7_none : Cond.instanceMethod yX7_none ∈ BIG := bg2 119 (by decide +kernel) rfl
theorem ksyX7_none : Cond.selects yX7_none.cls yX7_none yX7_none ∈ BIG := bgp (q := (yX7_none, 12)) (List.mem_of_getElem? (i := 1) (by decide +kernel)) rfl
theorem mw7_74 : Cond.methodLink RX7 74 yX7_none ∈ BIG := bg2 117 (by decide +kernel) rfl
theorem l7_74 : LkV RX7 74 7 yX7_none cX7_none 2 ((some .int)) 1 := ⟨mw7_74, knyX7_none, ksyX7_none, kiyX7_none, kyX7_none, ⟨_, rfl, rfl⟩, rfl, by decide +kernel, by decide +kernel, by decide +kernel⟩
/-- RoundedSums.none -/
theorem v7_74 {E : Ev} {cc : ByteArray} {nL : Nat} {ret : Option FieldType} {R : Room} {cl sl : Nat} {Z : Zt} {pc : Nat} {L st : List Vv} {M : Mm} {N : Nn} {a b : Nat} {x0 : Int} {h : Nat} {P : Int → Mm → Nn → Prop} (hd : decode cc pc = .ok (.invokevirtual 74, 3)) (hct : Nat.ble (ctL st) 8 = true) (hR : Nat.ble (h + 1) R.frames = true ∧ Nat.ble (8 + (2 + 11) + 40 * h) R.locals = true) (hcl : Nat.ble cl R.cells = true ∧ Nat.ble sl R.slots = true) (hc : Ct E yX7_none cX7_none 2 ((some .int)) (rmH h) [vr (3, a, b), vi x0] M N (qi P)) (k : ∀ r M1 N1, R32 r → P r M1 N1 → Go E RX7 cc nL ret R cl sl Z (pc + 3) L (vi r :: st) M1 N1) : Go E RX7 cc nL ret R cl sl Z (pc) L (vi x0 :: vr (3, a, b) :: st) M N := go_callV (As := [vi x0]) hd l7_74 rfl rfl rfl hct ⟨rfl, rfl⟩ ⟨Nat.le_of_ble_eq_true hR.1, Nat.le_of_ble_eq_true hR.2⟩ hc hcl (fun r M1 N1 h => by obtain ⟨z, rfl, h1, h⟩ := h; exact k z M1 N1 h1 h)
theorem kyX4_read : Cond.code yX4_read cX4_read 5 ((some .boolean)) ∈ BIG := bg2 124 (rfl) rfl
theorem kiyX4_read : Cond.initialized yX4_read.cls ∈ BIG := bg1 2 (by decide +kernel) rfl
theorem knyX4_read : Cond.instanceMethod yX4_read ∈ BIG := bg2 122 (by decide +kernel) rfl
theorem ksyX4_read : Cond.selects yX4_read.cls yX4_read yX4_read ∈ BIG := bg2 123 (by decide +kernel) rfl
theorem mw7_78 : Cond.methodLink RX7 78 yX4_read ∈ BIG := bg2 121 (by decide +kernel) rfl
theorem l7_78 : LkV RX7 78 4 yX4_read cX4_read 5 ((some .boolean)) 3 := ⟨mw7_78, knyX4_read, ksyX4_read, kiyX4_read, kyX4_read, ⟨_, rfl, rfl⟩, rfl, by decide +kernel, by decide +kernel, by decide +kernel⟩
/-- RoundedSums$Reader.read -/
theorem v7_78 {E : Ev} {cc : ByteArray} {nL : Nat} {ret : Option FieldType} {R : Room} {cl sl : Nat} {Z : Zt} {pc : Nat} {L st : List Vv} {M : Mm} {N : Nn} {a b : Nat} {x0 : Nm} {x1 : Int} {x2 : Nm} {h : Nat} {P : Int → Mm → Nn → Prop} (hd : decode cc pc = .ok (.invokevirtual 78, 3)) (hct : Nat.ble (ctL st) 8 = true) (hR : Nat.ble (h + 1) R.frames = true ∧ Nat.ble (8 + (5 + 11) + 40 * h) R.locals = true) (hcl : Nat.ble cl R.cells = true ∧ Nat.ble sl R.slots = true) (hc : Ct E yX4_read cX4_read 5 ((some .boolean)) (rmH h) [vr (6, a, b), vr x0, vi x1, vr x2] M N (qi P)) (k : ∀ r M1 N1, R32 r → P r M1 N1 → Go E RX7 cc nL ret R cl sl Z (pc + 3) L (vi r :: st) M1 N1) : Go E RX7 cc nL ret R cl sl Z (pc) L (vr x2 :: vi x1 :: vr x0 :: vr (6, a, b) :: st) M N := go_callV (As := [vr x0, vi x1, vr x2]) hd l7_78 rfl rfl rfl hct ⟨rfl, rfl⟩ ⟨Nat.le_of_ble_eq_true hR.1, Nat.le_of_ble_eq_true hR.2⟩ hc hcl (fun r M1 N1 h => by obtain ⟨z, rfl, h1, h⟩ := h; exact k z M1 N1 h1 h)
theorem kyX7_takeSpare : Cond.code yX7_takeSpare cX7_takeSpare 2 (none) ∈ BIG := bg3 77 (rfl) rfl
theorem kiyX7_takeSpare : Cond.initialized yX7_takeSpare.cls ∈ BIG := bg1 1 (by decide +kernel) rfl
theorem knyX7_takeSpare : Cond.instanceMethod yX7_takeSpare ∈ BIG := bg3 76 (by decide +kernel) rfl
theorem ksyX7_takeSpare : Cond.selects yX7_takeSpare.cls yX7_takeSpare yX7_takeSpare ∈ BIG := bgp (q := (yX7_takeSpare, 12)) (List.mem_of_getElem? (i := 21) (by decide +kernel)) rfl
theorem mw7_84 : Cond.methodLink RX7 84 yX7_takeSpare ∈ BIG := bg3 74 (by decide +kernel) rfl
theorem l7_84 : LkV RX7 84 7 yX7_takeSpare cX7_takeSpare 2 (none) 0 := ⟨mw7_84, knyX7_takeSpare, ksyX7_takeSpare, kiyX7_takeSpare, kyX7_takeSpare, ⟨_, rfl, rfl⟩, rfl, by decide +kernel, by decide +kernel, by decide +kernel⟩
/-- RoundedSums.takeSpare -/
theorem v7_84 {E : Ev} {cc : ByteArray} {nL : Nat} {ret : Option FieldType} {R : Room} {cl sl : Nat} {Z : Zt} {pc : Nat} {L st : List Vv} {M : Mm} {N : Nn} {a b : Nat}  {h : Nat} {P : Mm → Nn → Prop} (hd : decode cc pc = .ok (.invokevirtual 84, 3)) (hct : Nat.ble (ctL st) 8 = true) (hR : Nat.ble (h + 1) R.frames = true ∧ Nat.ble (8 + (2 + 11) + 40 * h) R.locals = true) (hcl : Nat.ble cl R.cells = true ∧ Nat.ble sl R.slots = true) (hc : Ct E yX7_takeSpare cX7_takeSpare 2 (none) (rmH h) [vr (3, a, b)] M N (qv P)) (k : ∀ M1 N1, P M1 N1 → Go E RX7 cc nL ret R cl sl Z (pc + 3) L (st) M1 N1) : Go E RX7 cc nL ret R cl sl Z (pc) L (vr (3, a, b) :: st) M N := go_callV (As := []) hd l7_84 rfl rfl rfl hct ⟨rfl, rfl⟩ ⟨Nat.le_of_ble_eq_true hR.1, Nat.le_of_ble_eq_true hR.2⟩ hc hcl (fun r M1 N1 h => by obtain ⟨rfl, h⟩ := h; exact k M1 N1 h)
theorem kyX3_steps : Cond.code yX3_steps cX3_steps 1 ((some .int)) ∈ BIG := bg3 45 (rfl) rfl
theorem kiyX3_steps : Cond.initialized yX3_steps.cls ∈ BIG := bg1 6 (by decide +kernel) rfl
theorem knyX3_steps : Cond.instanceMethod yX3_steps ∈ BIG := bg3 43 (by decide +kernel) rfl
theorem ksyX3_steps : Cond.selects yX3_steps.cls yX3_steps yX3_steps ∈ BIG := bg3 44 (by decide +kernel) rfl
theorem mw7_99 : Cond.methodLink RX7 99 yX3_steps ∈ BIG := bg3 184 (by decide +kernel) rfl
theorem l7_99 : LkV RX7 99 3 yX3_steps cX3_steps 1 ((some .int)) 0 := ⟨mw7_99, knyX3_steps, ksyX3_steps, kiyX3_steps, kyX3_steps, ⟨_, rfl, rfl⟩, rfl, by decide +kernel, by decide +kernel, by decide +kernel⟩
/-- RoundedSums$Program.steps -/
theorem v7_99 {E : Ev} {cc : ByteArray} {nL : Nat} {ret : Option FieldType} {R : Room} {cl sl : Nat} {Z : Zt} {pc : Nat} {L st : List Vv} {M : Mm} {N : Nn} {a b : Nat}  {h : Nat} {P : Int → Mm → Nn → Prop} (hd : decode cc pc = .ok (.invokevirtual 99, 3)) (hct : Nat.ble (ctL st) 8 = true) (hR : Nat.ble (h + 1) R.frames = true ∧ Nat.ble (8 + (1 + 11) + 40 * h) R.locals = true) (hcl : Nat.ble cl R.cells = true ∧ Nat.ble sl R.slots = true) (hc : Ct E yX3_steps cX3_steps 1 ((some .int)) (rmH h) [vr (18, a, b)] M N (qi P)) (k : ∀ r M1 N1, R32 r → P r M1 N1 → Go E RX7 cc nL ret R cl sl Z (pc + 3) L (vi r :: st) M1 N1) : Go E RX7 cc nL ret R cl sl Z (pc) L (vr (18, a, b) :: st) M N := go_callV (As := []) hd l7_99 rfl rfl rfl hct ⟨rfl, rfl⟩ ⟨Nat.le_of_ble_eq_true hR.1, Nat.le_of_ble_eq_true hR.2⟩ hc hcl (fun r M1 N1 h => by obtain ⟨z, rfl, h1, h⟩ := h; exact k z M1 N1 h1 h)
theorem kyX3_points : Cond.code yX3_points cX3_points 5 ((some .long)) ∈ BIG := bg3 188 (rfl) rfl
theorem kiyX3_points : Cond.initialized yX3_points.cls ∈ BIG := bg1 6 (by decide +kernel) rfl
theorem knyX3_points : Cond.instanceMethod yX3_points ∈ BIG := bg3 186 (by decide +kernel) rfl
theorem ksyX3_points : Cond.selects yX3_points.cls yX3_points yX3_points ∈ BIG := bg3 187 (by decide +kernel) rfl
theorem mw7_106 : Cond.methodLink RX7 106 yX3_points ∈ BIG := bg3 185 (by decide +kernel) rfl
theorem l7_106 : LkV RX7 106 3 yX3_points cX3_points 5 ((some .long)) 0 := ⟨mw7_106, knyX3_points, ksyX3_points, kiyX3_points, kyX3_points, ⟨_, rfl, rfl⟩, rfl, by decide +kernel, by decide +kernel, by decide +kernel⟩
/-- RoundedSums$Program.points -/
theorem v7_106 {E : Ev} {cc : ByteArray} {nL : Nat} {ret : Option FieldType} {R : Room} {cl sl : Nat} {Z : Zt} {pc : Nat} {L st : List Vv} {M : Mm} {N : Nn} {a b : Nat}  {h : Nat} {P : Int → Mm → Nn → Prop} (hd : decode cc pc = .ok (.invokevirtual 106, 3)) (hct : Nat.ble (ctL st) 8 = true) (hR : Nat.ble (h + 1) R.frames = true ∧ Nat.ble (8 + (5 + 11) + 40 * h) R.locals = true) (hcl : Nat.ble cl R.cells = true ∧ Nat.ble sl R.slots = true) (hc : Ct E yX3_points cX3_points 5 ((some .long)) (rmH h) [vr (18, a, b)] M N (ql P)) (k : ∀ r M1 N1, R64 r → P r M1 N1 → Go E RX7 cc nL ret R cl sl Z (pc + 3) L (vl r :: st) M1 N1) : Go E RX7 cc nL ret R cl sl Z (pc) L (vr (18, a, b) :: st) M N := go_callV (As := []) hd l7_106 rfl rfl rfl hct ⟨rfl, rfl⟩ ⟨Nat.le_of_ble_eq_true hR.1, Nat.le_of_ble_eq_true hR.2⟩ hc hcl (fun r M1 N1 h => by obtain ⟨z, rfl, h1, h⟩ := h; exact k z M1 N1 h1 h)
theorem kyJ9_min_f86c9 : Cond.code yJ9_min_f86c9 cJ9_min_f86c9 4 ((some .long)) ∈ BIG := bg3 158 (rfl) rfl
theorem kiyJ9_min_f86c9 : Cond.initialized yJ9_min_f86c9.cls ∈ BIG := bg1 14 (by decide +kernel) rfl
theorem ktyJ9_min_f86c9 : Cond.static yJ9_min_f86c9 ∈ BIG := bg3 157 (by decide +kernel) rfl
theorem mw7_112 : Cond.methodLink RX7 112 yJ9_min_f86c9 ∈ BIG := bg3 190 (by decide +kernel) rfl
theorem l7_112 : LkS RX7 112 yJ9_min_f86c9 cJ9_min_f86c9 4 ((some .long)) 2 := ⟨mw7_112, ktyJ9_min_f86c9, kiyJ9_min_f86c9, kyJ9_min_f86c9, by decide +kernel, by decide +kernel, by decide +kernel⟩
/-- java/lang/Math.min -/
theorem v7_112 {E : Ev} {cc : ByteArray} {nL : Nat} {ret : Option FieldType} {R : Room} {cl sl : Nat} {Z : Zt} {pc : Nat} {L st : List Vv} {M : Mm} {N : Nn} {x0 : Int} {x1 : Int} {h : Nat} {P : Int → Mm → Nn → Prop} (hd : decode cc pc = .ok (.invokestatic 112, 3)) (hct : Nat.ble (ctL st) 8 = true) (hR : Nat.ble (h + 1) R.frames = true ∧ Nat.ble (8 + (4 + 11) + 40 * h) R.locals = true) (hcl : Nat.ble cl R.cells = true ∧ Nat.ble sl R.slots = true) (hc : Ct E yJ9_min_f86c9 cJ9_min_f86c9 4 ((some .long)) (rmH h) [vl x0, vl x1] M N (ql P)) (k : ∀ r M1 N1, R64 r → P r M1 N1 → Go E RX7 cc nL ret R cl sl Z (pc + 3) L (vl r :: st) M1 N1) : Go E RX7 cc nL ret R cl sl Z (pc) L (vl x1 :: vl x0 :: st) M N := go_callS (As := [vl x0, vl x1]) hd l7_112 rfl rfl hct ⟨rfl, rfl⟩ ⟨Nat.le_of_ble_eq_true hR.1, Nat.le_of_ble_eq_true hR.2⟩ hc hcl (fun r M1 N1 h => by obtain ⟨z, rfl, h1, h⟩ := h; exact k z M1 N1 h1 h)
theorem kyX3_has : Cond.code yX3_has cX3_has 2 ((some .boolean)) ∈ BIG := bg3 198 (rfl) rfl
theorem kiyX3_has : Cond.initialized yX3_has.cls ∈ BIG := bg1 6 (by decide +kernel) rfl
theorem knyX3_has : Cond.instanceMethod yX3_has ∈ BIG := bg3 196 (by decide +kernel) rfl
theorem ksyX3_has : Cond.selects yX3_has.cls yX3_has yX3_has ∈ BIG := bg3 197 (by decide +kernel) rfl
theorem mw7_118 : Cond.methodLink RX7 118 yX3_has ∈ BIG := bg3 195 (by decide +kernel) rfl
theorem l7_118 : LkV RX7 118 3 yX3_has cX3_has 2 ((some .boolean)) 1 := ⟨mw7_118, knyX3_has, ksyX3_has, kiyX3_has, kyX3_has, ⟨_, rfl, rfl⟩, rfl, by decide +kernel, by decide +kernel, by decide +kernel⟩
/-- RoundedSums$Program.has -/
theorem v7_118 {E : Ev} {cc : ByteArray} {nL : Nat} {ret : Option FieldType} {R : Room} {cl sl : Nat} {Z : Zt} {pc : Nat} {L st : List Vv} {M : Mm} {N : Nn} {a b : Nat} {x0 : Int} {h : Nat} {P : Int → Mm → Nn → Prop} (hd : decode cc pc = .ok (.invokevirtual 118, 3)) (hct : Nat.ble (ctL st) 8 = true) (hR : Nat.ble (h + 1) R.frames = true ∧ Nat.ble (8 + (2 + 11) + 40 * h) R.locals = true) (hcl : Nat.ble cl R.cells = true ∧ Nat.ble sl R.slots = true) (hc : Ct E yX3_has cX3_has 2 ((some .boolean)) (rmH h) [vr (18, a, b), vi x0] M N (qi P)) (k : ∀ r M1 N1, R32 r → P r M1 N1 → Go E RX7 cc nL ret R cl sl Z (pc + 3) L (vi r :: st) M1 N1) : Go E RX7 cc nL ret R cl sl Z (pc) L (vi x0 :: vr (18, a, b) :: st) M N := go_callV (As := [vi x0]) hd l7_118 rfl rfl rfl hct ⟨rfl, rfl⟩ ⟨Nat.le_of_ble_eq_true hR.1, Nat.le_of_ble_eq_true hR.2⟩ hc hcl (fun r M1 N1 h => by obtain ⟨z, rfl, h1, h⟩ := h; exact k z M1 N1 h1 h)
theorem kyX7_nothing : Cond.code yX7_nothing cX7_nothing 2 ((some .long)) ∈ BIG := bg3 202 (rfl) rfl
theorem kiyX7_nothing : Cond.initialized yX7_nothing.cls ∈ BIG := bg1 1 (by decide +kernel) rfl
theorem knyX7_nothing : Cond.instanceMethod yX7_nothing ∈ BIG := bg3 201 (by decide +kernel) rfl
theorem ksyX7_nothing : Cond.selects yX7_nothing.cls yX7_nothing yX7_nothing ∈ BIG := bgp (q := (yX7_nothing, 12)) (List.mem_of_getElem? (i := 35) (by decide +kernel)) rfl
theorem mw7_122 : Cond.methodLink RX7 122 yX7_nothing ∈ BIG := bg3 199 (by decide +kernel) rfl
theorem l7_122 : LkV RX7 122 7 yX7_nothing cX7_nothing 2 ((some .long)) 1 := ⟨mw7_122, knyX7_nothing, ksyX7_nothing, kiyX7_nothing, kyX7_nothing, ⟨_, rfl, rfl⟩, rfl, by decide +kernel, by decide +kernel, by decide +kernel⟩
/-- RoundedSums.nothing -/
theorem v7_122 {E : Ev} {cc : ByteArray} {nL : Nat} {ret : Option FieldType} {R : Room} {cl sl : Nat} {Z : Zt} {pc : Nat} {L st : List Vv} {M : Mm} {N : Nn} {a b : Nat} {x0 : Int} {h : Nat} {P : Int → Mm → Nn → Prop} (hd : decode cc pc = .ok (.invokevirtual 122, 3)) (hct : Nat.ble (ctL st) 8 = true) (hR : Nat.ble (h + 1) R.frames = true ∧ Nat.ble (8 + (2 + 11) + 40 * h) R.locals = true) (hcl : Nat.ble cl R.cells = true ∧ Nat.ble sl R.slots = true) (hc : Ct E yX7_nothing cX7_nothing 2 ((some .long)) (rmH h) [vr (3, a, b), vi x0] M N (ql P)) (k : ∀ r M1 N1, R64 r → P r M1 N1 → Go E RX7 cc nL ret R cl sl Z (pc + 3) L (vl r :: st) M1 N1) : Go E RX7 cc nL ret R cl sl Z (pc) L (vi x0 :: vr (3, a, b) :: st) M N := go_callV (As := [vi x0]) hd l7_122 rfl rfl rfl hct ⟨rfl, rfl⟩ ⟨Nat.le_of_ble_eq_true hR.1, Nat.le_of_ble_eq_true hR.2⟩ hc hcl (fun r M1 N1 h => by obtain ⟨z, rfl, h1, h⟩ := h; exact k z M1 N1 h1 h)
theorem kyX3_isInput : Cond.code yX3_isInput cX3_isInput 2 ((some .boolean)) ∈ BIG := bg3 6 (rfl) rfl
theorem kiyX3_isInput : Cond.initialized yX3_isInput.cls ∈ BIG := bg1 6 (by decide +kernel) rfl
theorem knyX3_isInput : Cond.instanceMethod yX3_isInput ∈ BIG := bg3 4 (by decide +kernel) rfl
theorem ksyX3_isInput : Cond.selects yX3_isInput.cls yX3_isInput yX3_isInput ∈ BIG := bg3 5 (by decide +kernel) rfl
theorem mw7_126 : Cond.methodLink RX7 126 yX3_isInput ∈ BIG := bg3 204 (by decide +kernel) rfl
theorem l7_126 : LkV RX7 126 3 yX3_isInput cX3_isInput 2 ((some .boolean)) 1 := ⟨mw7_126, knyX3_isInput, ksyX3_isInput, kiyX3_isInput, kyX3_isInput, ⟨_, rfl, rfl⟩, rfl, by decide +kernel, by decide +kernel, by decide +kernel⟩
/-- RoundedSums$Program.isInput -/
theorem v7_126 {E : Ev} {cc : ByteArray} {nL : Nat} {ret : Option FieldType} {R : Room} {cl sl : Nat} {Z : Zt} {pc : Nat} {L st : List Vv} {M : Mm} {N : Nn} {a b : Nat} {x0 : Int} {h : Nat} {P : Int → Mm → Nn → Prop} (hd : decode cc pc = .ok (.invokevirtual 126, 3)) (hct : Nat.ble (ctL st) 8 = true) (hR : Nat.ble (h + 1) R.frames = true ∧ Nat.ble (8 + (2 + 11) + 40 * h) R.locals = true) (hcl : Nat.ble cl R.cells = true ∧ Nat.ble sl R.slots = true) (hc : Ct E yX3_isInput cX3_isInput 2 ((some .boolean)) (rmH h) [vr (18, a, b), vi x0] M N (qi P)) (k : ∀ r M1 N1, R32 r → P r M1 N1 → Go E RX7 cc nL ret R cl sl Z (pc + 3) L (vi r :: st) M1 N1) : Go E RX7 cc nL ret R cl sl Z (pc) L (vi x0 :: vr (18, a, b) :: st) M N := go_callV (As := [vi x0]) hd l7_126 rfl rfl rfl hct ⟨rfl, rfl⟩ ⟨Nat.le_of_ble_eq_true hR.1, Nat.le_of_ble_eq_true hR.2⟩ hc hcl (fun r M1 N1 h => by obtain ⟨z, rfl, h1, h⟩ := h; exact k z M1 N1 h1 h)
theorem kyX3_isStep : Cond.code yX3_isStep cX3_isStep 2 ((some .boolean)) ∈ BIG := bg3 213 (rfl) rfl
theorem kiyX3_isStep : Cond.initialized yX3_isStep.cls ∈ BIG := bg1 6 (by decide +kernel) rfl
theorem knyX3_isStep : Cond.instanceMethod yX3_isStep ∈ BIG := bg3 211 (by decide +kernel) rfl
theorem ksyX3_isStep : Cond.selects yX3_isStep.cls yX3_isStep yX3_isStep ∈ BIG := bg3 212 (by decide +kernel) rfl
theorem mw7_147 : Cond.methodLink RX7 147 yX3_isStep ∈ BIG := bg3 210 (by decide +kernel) rfl
theorem l7_147 : LkV RX7 147 3 yX3_isStep cX3_isStep 2 ((some .boolean)) 1 := ⟨mw7_147, knyX3_isStep, ksyX3_isStep, kiyX3_isStep, kyX3_isStep, ⟨_, rfl, rfl⟩, rfl, by decide +kernel, by decide +kernel, by decide +kernel⟩
/-- RoundedSums$Program.isStep -/
theorem v7_147 {E : Ev} {cc : ByteArray} {nL : Nat} {ret : Option FieldType} {R : Room} {cl sl : Nat} {Z : Zt} {pc : Nat} {L st : List Vv} {M : Mm} {N : Nn} {a b : Nat} {x0 : Int} {h : Nat} {P : Int → Mm → Nn → Prop} (hd : decode cc pc = .ok (.invokevirtual 147, 3)) (hct : Nat.ble (ctL st) 8 = true) (hR : Nat.ble (h + 1) R.frames = true ∧ Nat.ble (8 + (2 + 11) + 40 * h) R.locals = true) (hcl : Nat.ble cl R.cells = true ∧ Nat.ble sl R.slots = true) (hc : Ct E yX3_isStep cX3_isStep 2 ((some .boolean)) (rmH h) [vr (18, a, b), vi x0] M N (qi P)) (k : ∀ r M1 N1, R32 r → P r M1 N1 → Go E RX7 cc nL ret R cl sl Z (pc + 3) L (vi r :: st) M1 N1) : Go E RX7 cc nL ret R cl sl Z (pc) L (vi x0 :: vr (18, a, b) :: st) M N := go_callV (As := [vi x0]) hd l7_147 rfl rfl rfl hct ⟨rfl, rfl⟩ ⟨Nat.le_of_ble_eq_true hR.1, Nat.le_of_ble_eq_true hR.2⟩ hc hcl (fun r M1 N1 h => by obtain ⟨z, rfl, h1, h⟩ := h; exact k z M1 N1 h1 h)
theorem kyX3_operands : Cond.code yX3_operands cX3_operands 2 ((some .int)) ∈ BIG := bg3 16 (rfl) rfl
theorem kiyX3_operands : Cond.initialized yX3_operands.cls ∈ BIG := bg1 6 (by decide +kernel) rfl
theorem knyX3_operands : Cond.instanceMethod yX3_operands ∈ BIG := bg3 14 (by decide +kernel) rfl
theorem ksyX3_operands : Cond.selects yX3_operands.cls yX3_operands yX3_operands ∈ BIG := bg3 15 (by decide +kernel) rfl
theorem mw7_150 : Cond.methodLink RX7 150 yX3_operands ∈ BIG := bg3 214 (by decide +kernel) rfl
theorem l7_150 : LkV RX7 150 3 yX3_operands cX3_operands 2 ((some .int)) 1 := ⟨mw7_150, knyX3_operands, ksyX3_operands, kiyX3_operands, kyX3_operands, ⟨_, rfl, rfl⟩, rfl, by decide +kernel, by decide +kernel, by decide +kernel⟩
/-- RoundedSums$Program.operands -/
theorem v7_150 {E : Ev} {cc : ByteArray} {nL : Nat} {ret : Option FieldType} {R : Room} {cl sl : Nat} {Z : Zt} {pc : Nat} {L st : List Vv} {M : Mm} {N : Nn} {a b : Nat} {x0 : Int} {h : Nat} {P : Int → Mm → Nn → Prop} (hd : decode cc pc = .ok (.invokevirtual 150, 3)) (hct : Nat.ble (ctL st) 8 = true) (hR : Nat.ble (h + 1) R.frames = true ∧ Nat.ble (8 + (2 + 11) + 40 * h) R.locals = true) (hcl : Nat.ble cl R.cells = true ∧ Nat.ble sl R.slots = true) (hc : Ct E yX3_operands cX3_operands 2 ((some .int)) (rmH h) [vr (18, a, b), vi x0] M N (qi P)) (k : ∀ r M1 N1, R32 r → P r M1 N1 → Go E RX7 cc nL ret R cl sl Z (pc + 3) L (vi r :: st) M1 N1) : Go E RX7 cc nL ret R cl sl Z (pc) L (vi x0 :: vr (18, a, b) :: st) M N := go_callV (As := [vi x0]) hd l7_150 rfl rfl rfl hct ⟨rfl, rfl⟩ ⟨Nat.le_of_ble_eq_true hR.1, Nat.le_of_ble_eq_true hR.2⟩ hc hcl (fun r M1 N1 h => by obtain ⟨z, rfl, h1, h⟩ := h; exact k z M1 N1 h1 h)
theorem kyX7_refused : Cond.code yX7_refused cX7_refused 2 ((some .boolean)) ∈ BIG := bg3 222 (rfl) rfl
theorem kiyX7_refused : Cond.initialized yX7_refused.cls ∈ BIG := bg1 1 (by decide +kernel) rfl
theorem knyX7_refused : Cond.instanceMethod yX7_refused ∈ BIG := bg3 221 (by decide +kernel) rfl
theorem ksyX7_refused : Cond.selects yX7_refused.cls yX7_refused yX7_refused ∈ BIG := bgp (q := (yX7_refused, 12)) (List.mem_of_getElem? (i := 36) (by decide +kernel)) rfl
theorem mw7_156 : Cond.methodLink RX7 156 yX7_refused ∈ BIG := bg3 219 (by decide +kernel) rfl
theorem l7_156 : LkV RX7 156 7 yX7_refused cX7_refused 2 ((some .boolean)) 1 := ⟨mw7_156, knyX7_refused, ksyX7_refused, kiyX7_refused, kyX7_refused, ⟨_, rfl, rfl⟩, rfl, by decide +kernel, by decide +kernel, by decide +kernel⟩
/-- RoundedSums.refused -/
theorem v7_156 {E : Ev} {cc : ByteArray} {nL : Nat} {ret : Option FieldType} {R : Room} {cl sl : Nat} {Z : Zt} {pc : Nat} {L st : List Vv} {M : Mm} {N : Nn} {a b : Nat} {x0 : Int} {h : Nat} {P : Int → Mm → Nn → Prop} (hd : decode cc pc = .ok (.invokevirtual 156, 3)) (hct : Nat.ble (ctL st) 8 = true) (hR : Nat.ble (h + 1) R.frames = true ∧ Nat.ble (8 + (2 + 11) + 40 * h) R.locals = true) (hcl : Nat.ble cl R.cells = true ∧ Nat.ble sl R.slots = true) (hc : Ct E yX7_refused cX7_refused 2 ((some .boolean)) (rmH h) [vr (3, a, b), vi x0] M N (qi P)) (k : ∀ r M1 N1, R32 r → P r M1 N1 → Go E RX7 cc nL ret R cl sl Z (pc + 3) L (vi r :: st) M1 N1) : Go E RX7 cc nL ret R cl sl Z (pc) L (vi x0 :: vr (3, a, b) :: st) M N := go_callV (As := [vi x0]) hd l7_156 rfl rfl rfl hct ⟨rfl, rfl⟩ ⟨Nat.le_of_ble_eq_true hR.1, Nat.le_of_ble_eq_true hR.2⟩ hc hcl (fun r M1 N1 h => by obtain ⟨z, rfl, h1, h⟩ := h; exact k z M1 N1 h1 h)
theorem kyX5_reckonAt : Cond.code yX5_reckonAt cX5_reckonAt 5 (none) ∈ BIG := bg3 230 (rfl) rfl
theorem kiyX5_reckonAt : Cond.initialized yX5_reckonAt.cls ∈ BIG := bg1 8 (by decide +kernel) rfl
theorem knyX5_reckonAt : Cond.instanceMethod yX5_reckonAt ∈ BIG := bg3 228 (by decide +kernel) rfl
theorem ksyX5_reckonAt : Cond.selects yX5_reckonAt.cls yX5_reckonAt yX5_reckonAt ∈ BIG := bg3 229 (by decide +kernel) rfl
theorem mw7_163 : Cond.methodLink RX7 163 yX5_reckonAt ∈ BIG := bg3 227 (by decide +kernel) rfl
theorem l7_163 : LkV RX7 163 5 yX5_reckonAt cX5_reckonAt 5 (none) 3 := ⟨mw7_163, knyX5_reckonAt, ksyX5_reckonAt, kiyX5_reckonAt, kyX5_reckonAt, ⟨_, rfl, rfl⟩, rfl, by decide +kernel, by decide +kernel, by decide +kernel⟩
/-- RoundedSums$Run.reckonAt -/
theorem v7_163 {E : Ev} {cc : ByteArray} {nL : Nat} {ret : Option FieldType} {R : Room} {cl sl : Nat} {Z : Zt} {pc : Nat} {L st : List Vv} {M : Mm} {N : Nn} {a b : Nat} {x0 : Nm} {x1 : Nm} {x2 : Int} {h : Nat} {P : Mm → Nn → Prop} (hd : decode cc pc = .ok (.invokevirtual 163, 3)) (hct : Nat.ble (ctL st) 8 = true) (hR : Nat.ble (h + 1) R.frames = true ∧ Nat.ble (8 + (5 + 11) + 40 * h) R.locals = true) (hcl : Nat.ble cl R.cells = true ∧ Nat.ble sl R.slots = true) (hc : Ct E yX5_reckonAt cX5_reckonAt 5 (none) (rmH h) [vr (26, a, b), vr x0, vr x1, vi x2] M N (qv P)) (k : ∀ M1 N1, P M1 N1 → Go E RX7 cc nL ret R cl sl Z (pc + 3) L (st) M1 N1) : Go E RX7 cc nL ret R cl sl Z (pc) L (vi x2 :: vr x1 :: vr x0 :: vr (26, a, b) :: st) M N := go_callV (As := [vr x0, vr x1, vi x2]) hd l7_163 rfl rfl rfl hct ⟨rfl, rfl⟩ ⟨Nat.le_of_ble_eq_true hR.1, Nat.le_of_ble_eq_true hR.2⟩ hc hcl (fun r M1 N1 h => by obtain ⟨rfl, h⟩ := h; exact k M1 N1 h)
theorem kyX3_isPick : Cond.code yX3_isPick cX3_isPick 2 ((some .boolean)) ∈ BIG := bg3 20 (rfl) rfl
theorem kiyX3_isPick : Cond.initialized yX3_isPick.cls ∈ BIG := bg1 6 (by decide +kernel) rfl
theorem knyX3_isPick : Cond.instanceMethod yX3_isPick ∈ BIG := bg3 18 (by decide +kernel) rfl
theorem ksyX3_isPick : Cond.selects yX3_isPick.cls yX3_isPick yX3_isPick ∈ BIG := bg3 19 (by decide +kernel) rfl
theorem mw7_175 : Cond.methodLink RX7 175 yX3_isPick ∈ BIG := bg4 10 (by decide +kernel) rfl
theorem l7_175 : LkV RX7 175 3 yX3_isPick cX3_isPick 2 ((some .boolean)) 1 := ⟨mw7_175, knyX3_isPick, ksyX3_isPick, kiyX3_isPick, kyX3_isPick, ⟨_, rfl, rfl⟩, rfl, by decide +kernel, by decide +kernel, by decide +kernel⟩
/-- RoundedSums$Program.isPick -/
theorem v7_175 {E : Ev} {cc : ByteArray} {nL : Nat} {ret : Option FieldType} {R : Room} {cl sl : Nat} {Z : Zt} {pc : Nat} {L st : List Vv} {M : Mm} {N : Nn} {a b : Nat} {x0 : Int} {h : Nat} {P : Int → Mm → Nn → Prop} (hd : decode cc pc = .ok (.invokevirtual 175, 3)) (hct : Nat.ble (ctL st) 8 = true) (hR : Nat.ble (h + 1) R.frames = true ∧ Nat.ble (8 + (2 + 11) + 40 * h) R.locals = true) (hcl : Nat.ble cl R.cells = true ∧ Nat.ble sl R.slots = true) (hc : Ct E yX3_isPick cX3_isPick 2 ((some .boolean)) (rmH h) [vr (18, a, b), vi x0] M N (qi P)) (k : ∀ r M1 N1, R32 r → P r M1 N1 → Go E RX7 cc nL ret R cl sl Z (pc + 3) L (vi r :: st) M1 N1) : Go E RX7 cc nL ret R cl sl Z (pc) L (vi x0 :: vr (18, a, b) :: st) M N := go_callV (As := [vi x0]) hd l7_175 rfl rfl rfl hct ⟨rfl, rfl⟩ ⟨Nat.le_of_ble_eq_true hR.1, Nat.le_of_ble_eq_true hR.2⟩ hc hcl (fun r M1 N1 h => by obtain ⟨z, rfl, h1, h⟩ := h; exact k z M1 N1 h1 h)
theorem kyX5_ways : Cond.code yX5_ways cX5_ways 3 ((some .int)) ∈ BIG := bg4 14 (rfl) rfl
theorem kiyX5_ways : Cond.initialized yX5_ways.cls ∈ BIG := bg1 8 (by decide +kernel) rfl
theorem knyX5_ways : Cond.instanceMethod yX5_ways ∈ BIG := bg4 12 (by decide +kernel) rfl
theorem ksyX5_ways : Cond.selects yX5_ways.cls yX5_ways yX5_ways ∈ BIG := bg4 13 (by decide +kernel) rfl
theorem mw7_178 : Cond.methodLink RX7 178 yX5_ways ∈ BIG := bg4 11 (by decide +kernel) rfl
theorem l7_178 : LkV RX7 178 5 yX5_ways cX5_ways 3 ((some .int)) 2 := ⟨mw7_178, knyX5_ways, ksyX5_ways, kiyX5_ways, kyX5_ways, ⟨_, rfl, rfl⟩, rfl, by decide +kernel, by decide +kernel, by decide +kernel⟩
/-- RoundedSums$Run.ways -/
theorem v7_178 {E : Ev} {cc : ByteArray} {nL : Nat} {ret : Option FieldType} {R : Room} {cl sl : Nat} {Z : Zt} {pc : Nat} {L st : List Vv} {M : Mm} {N : Nn} {a b : Nat} {x0 : Nm} {x1 : Int} {h : Nat} {P : Int → Mm → Nn → Prop} (hd : decode cc pc = .ok (.invokevirtual 178, 3)) (hct : Nat.ble (ctL st) 8 = true) (hR : Nat.ble (h + 1) R.frames = true ∧ Nat.ble (8 + (3 + 11) + 40 * h) R.locals = true) (hcl : Nat.ble cl R.cells = true ∧ Nat.ble sl R.slots = true) (hc : Ct E yX5_ways cX5_ways 3 ((some .int)) (rmH h) [vr (26, a, b), vr x0, vi x1] M N (qi P)) (k : ∀ r M1 N1, R32 r → P r M1 N1 → Go E RX7 cc nL ret R cl sl Z (pc + 3) L (vi r :: st) M1 N1) : Go E RX7 cc nL ret R cl sl Z (pc) L (vi x1 :: vr x0 :: vr (26, a, b) :: st) M N := go_callV (As := [vr x0, vi x1]) hd l7_178 rfl rfl rfl hct ⟨rfl, rfl⟩ ⟨Nat.le_of_ble_eq_true hR.1, Nat.le_of_ble_eq_true hR.2⟩ hc hcl (fun r M1 N1 h => by obtain ⟨z, rfl, h1, h⟩ := h; exact k z M1 N1 h1 h)
theorem kyX1_formOf : Cond.code yX1_formOf cX1_formOf 3 ((some (.object "RoundedSums$Form"))) ∈ BIG := bg4 25 (rfl) rfl
theorem kiyX1_formOf : Cond.initialized yX1_formOf.cls ∈ BIG := bg1 3 (by decide +kernel) rfl
theorem knyX1_formOf : Cond.instanceMethod yX1_formOf ∈ BIG := bg4 23 (by decide +kernel) rfl
theorem ksyX1_formOf : Cond.selects yX1_formOf.cls yX1_formOf yX1_formOf ∈ BIG := bg4 24 (by decide +kernel) rfl
theorem mw7_182 : Cond.methodLink RX7 182 yX1_formOf ∈ BIG := bg4 22 (by decide +kernel) rfl
theorem l7_182 : LkV RX7 182 1 yX1_formOf cX1_formOf 3 ((some (.object "RoundedSums$Form"))) 2 := ⟨mw7_182, knyX1_formOf, ksyX1_formOf, kiyX1_formOf, kyX1_formOf, ⟨_, rfl, rfl⟩, rfl, by decide +kernel, by decide +kernel, by decide +kernel⟩
/-- RoundedSums$Forms.formOf -/
theorem v7_182 {E : Ev} {cc : ByteArray} {nL : Nat} {ret : Option FieldType} {R : Room} {cl sl : Nat} {Z : Zt} {pc : Nat} {L st : List Vv} {M : Mm} {N : Nn} {a b : Nat} {x0 : Int} {x1 : Int} {h : Nat} {P : Nm → Mm → Nn → Prop} (hd : decode cc pc = .ok (.invokevirtual 182, 3)) (hct : Nat.ble (ctL st) 8 = true) (hR : Nat.ble (h + 1) R.frames = true ∧ Nat.ble (8 + (3 + 11) + 40 * h) R.locals = true) (hcl : Nat.ble cl R.cells = true ∧ Nat.ble sl R.slots = true) (hc : Ct E yX1_formOf cX1_formOf 3 ((some (.object "RoundedSums$Form"))) (rmH h) [vr (7, a, b), vi x0, vi x1] M N (qr P)) (k : ∀ r M1 N1, P r M1 N1 → Go E RX7 cc nL ret R cl sl Z (pc + 3) L (vr r :: st) M1 N1) : Go E RX7 cc nL ret R cl sl Z (pc) L (vi x1 :: vi x0 :: vr (7, a, b) :: st) M N := go_callV (As := [vi x0, vi x1]) hd l7_182 rfl rfl rfl hct ⟨rfl, rfl⟩ ⟨Nat.le_of_ble_eq_true hR.1, Nat.le_of_ble_eq_true hR.2⟩ hc hcl (fun r M1 N1 h => by obtain ⟨z, rfl, h⟩ := h; exact k z M1 N1 h)
theorem kyX0_least : Cond.code yX0_least cX0_least 1 ((some .long)) ∈ BIG := bg3 147 (rfl) rfl
theorem kiyX0_least : Cond.initialized yX0_least.cls ∈ BIG := bg1 4 (by decide +kernel) rfl
theorem knyX0_least : Cond.instanceMethod yX0_least ∈ BIG := bg3 145 (by decide +kernel) rfl
theorem ksyX0_least : Cond.selects yX0_least.cls yX0_least yX0_least ∈ BIG := bg3 146 (by decide +kernel) rfl
theorem mw7_195 : Cond.methodLink RX7 195 yX0_least ∈ BIG := bg4 30 (by decide +kernel) rfl
theorem l7_195 : LkV RX7 195 0 yX0_least cX0_least 1 ((some .long)) 0 := ⟨mw7_195, knyX0_least, ksyX0_least, kiyX0_least, kyX0_least, ⟨_, rfl, rfl⟩, rfl, by decide +kernel, by decide +kernel, by decide +kernel⟩
/-- RoundedSums$Form.least -/
theorem v7_195 {E : Ev} {cc : ByteArray} {nL : Nat} {ret : Option FieldType} {R : Room} {cl sl : Nat} {Z : Zt} {pc : Nat} {L st : List Vv} {M : Mm} {N : Nn} {a b : Nat}  {h : Nat} {P : Int → Mm → Nn → Prop} (hd : decode cc pc = .ok (.invokevirtual 195, 3)) (hct : Nat.ble (ctL st) 8 = true) (hR : Nat.ble (h + 1) R.frames = true ∧ Nat.ble (8 + (1 + 11) + 40 * h) R.locals = true) (hcl : Nat.ble cl R.cells = true ∧ Nat.ble sl R.slots = true) (hc : Ct E yX0_least cX0_least 1 ((some .long)) (rmH h) [vr (15, a, b)] M N (ql P)) (k : ∀ r M1 N1, R64 r → P r M1 N1 → Go E RX7 cc nL ret R cl sl Z (pc + 3) L (vl r :: st) M1 N1) : Go E RX7 cc nL ret R cl sl Z (pc) L (vr (15, a, b) :: st) M N := go_callV (As := []) hd l7_195 rfl rfl rfl hct ⟨rfl, rfl⟩ ⟨Nat.le_of_ble_eq_true hR.1, Nat.le_of_ble_eq_true hR.2⟩ hc hcl (fun r M1 N1 h => by obtain ⟨z, rfl, h1, h⟩ := h; exact k z M1 N1 h1 h)
theorem kyX0_greatest : Cond.code yX0_greatest cX0_greatest 1 ((some .long)) ∈ BIG := bg3 152 (rfl) rfl
theorem kiyX0_greatest : Cond.initialized yX0_greatest.cls ∈ BIG := bg1 4 (by decide +kernel) rfl
theorem knyX0_greatest : Cond.instanceMethod yX0_greatest ∈ BIG := bg3 150 (by decide +kernel) rfl
theorem ksyX0_greatest : Cond.selects yX0_greatest.cls yX0_greatest yX0_greatest ∈ BIG := bg3 151 (by decide +kernel) rfl
theorem mw7_198 : Cond.methodLink RX7 198 yX0_greatest ∈ BIG := bg4 31 (by decide +kernel) rfl
theorem l7_198 : LkV RX7 198 0 yX0_greatest cX0_greatest 1 ((some .long)) 0 := ⟨mw7_198, knyX0_greatest, ksyX0_greatest, kiyX0_greatest, kyX0_greatest, ⟨_, rfl, rfl⟩, rfl, by decide +kernel, by decide +kernel, by decide +kernel⟩
/-- RoundedSums$Form.greatest -/
theorem v7_198 {E : Ev} {cc : ByteArray} {nL : Nat} {ret : Option FieldType} {R : Room} {cl sl : Nat} {Z : Zt} {pc : Nat} {L st : List Vv} {M : Mm} {N : Nn} {a b : Nat}  {h : Nat} {P : Int → Mm → Nn → Prop} (hd : decode cc pc = .ok (.invokevirtual 198, 3)) (hct : Nat.ble (ctL st) 8 = true) (hR : Nat.ble (h + 1) R.frames = true ∧ Nat.ble (8 + (1 + 11) + 40 * h) R.locals = true) (hcl : Nat.ble cl R.cells = true ∧ Nat.ble sl R.slots = true) (hc : Ct E yX0_greatest cX0_greatest 1 ((some .long)) (rmH h) [vr (15, a, b)] M N (ql P)) (k : ∀ r M1 N1, R64 r → P r M1 N1 → Go E RX7 cc nL ret R cl sl Z (pc + 3) L (vl r :: st) M1 N1) : Go E RX7 cc nL ret R cl sl Z (pc) L (vr (15, a, b) :: st) M N := go_callV (As := []) hd l7_198 rfl rfl rfl hct ⟨rfl, rfl⟩ ⟨Nat.le_of_ble_eq_true hR.1, Nat.le_of_ble_eq_true hR.2⟩ hc hcl (fun r M1 N1 h => by obtain ⟨z, rfl, h1, h⟩ := h; exact k z M1 N1 h1 h)
theorem kyX0_radius : Cond.code yX0_radius cX0_radius 4 ((some .long)) ∈ BIG := bg3 130 (rfl) rfl
theorem kiyX0_radius : Cond.initialized yX0_radius.cls ∈ BIG := bg1 4 (by decide +kernel) rfl
theorem knyX0_radius : Cond.instanceMethod yX0_radius ∈ BIG := bg3 128 (by decide +kernel) rfl
theorem ksyX0_radius : Cond.selects yX0_radius.cls yX0_radius yX0_radius ∈ BIG := bg3 129 (by decide +kernel) rfl
theorem mw7_201 : Cond.methodLink RX7 201 yX0_radius ∈ BIG := bg4 32 (by decide +kernel) rfl
theorem l7_201 : LkV RX7 201 0 yX0_radius cX0_radius 4 ((some .long)) 0 := ⟨mw7_201, knyX0_radius, ksyX0_radius, kiyX0_radius, kyX0_radius, ⟨_, rfl, rfl⟩, rfl, by decide +kernel, by decide +kernel, by decide +kernel⟩
/-- RoundedSums$Form.radius -/
theorem v7_201 {E : Ev} {cc : ByteArray} {nL : Nat} {ret : Option FieldType} {R : Room} {cl sl : Nat} {Z : Zt} {pc : Nat} {L st : List Vv} {M : Mm} {N : Nn} {a b : Nat}  {h : Nat} {P : Int → Mm → Nn → Prop} (hd : decode cc pc = .ok (.invokevirtual 201, 3)) (hct : Nat.ble (ctL st) 8 = true) (hR : Nat.ble (h + 1) R.frames = true ∧ Nat.ble (8 + (4 + 11) + 40 * h) R.locals = true) (hcl : Nat.ble cl R.cells = true ∧ Nat.ble sl R.slots = true) (hc : Ct E yX0_radius cX0_radius 4 ((some .long)) (rmH h) [vr (15, a, b)] M N (ql P)) (k : ∀ r M1 N1, R64 r → P r M1 N1 → Go E RX7 cc nL ret R cl sl Z (pc + 3) L (vl r :: st) M1 N1) : Go E RX7 cc nL ret R cl sl Z (pc) L (vr (15, a, b) :: st) M N := go_callV (As := []) hd l7_201 rfl rfl rfl hct ⟨rfl, rfl⟩ ⟨Nat.le_of_ble_eq_true hR.1, Nat.le_of_ble_eq_true hR.2⟩ hc hcl (fun r M1 N1 h => by obtain ⟨z, rfl, h1, h⟩ := h; exact k z M1 N1 h1 h)
theorem kyX1_boundOf : Cond.code yX1_boundOf cX1_boundOf 4 ((some .long)) ∈ BIG := bg4 40 (rfl) rfl
theorem kiyX1_boundOf : Cond.initialized yX1_boundOf.cls ∈ BIG := bg1 3 (by decide +kernel) rfl
theorem knyX1_boundOf : Cond.instanceMethod yX1_boundOf ∈ BIG := bg4 38 (by decide +kernel) rfl
theorem ksyX1_boundOf : Cond.selects yX1_boundOf.cls yX1_boundOf yX1_boundOf ∈ BIG := bg4 39 (by decide +kernel) rfl
theorem mw7_204 : Cond.methodLink RX7 204 yX1_boundOf ∈ BIG := bg4 37 (by decide +kernel) rfl
theorem l7_204 : LkV RX7 204 1 yX1_boundOf cX1_boundOf 4 ((some .long)) 1 := ⟨mw7_204, knyX1_boundOf, ksyX1_boundOf, kiyX1_boundOf, kyX1_boundOf, ⟨_, rfl, rfl⟩, rfl, by decide +kernel, by decide +kernel, by decide +kernel⟩
/-- RoundedSums$Forms.boundOf -/
theorem v7_204 {E : Ev} {cc : ByteArray} {nL : Nat} {ret : Option FieldType} {R : Room} {cl sl : Nat} {Z : Zt} {pc : Nat} {L st : List Vv} {M : Mm} {N : Nn} {a b : Nat} {x0 : Int} {h : Nat} {P : Int → Mm → Nn → Prop} (hd : decode cc pc = .ok (.invokevirtual 204, 3)) (hct : Nat.ble (ctL st) 8 = true) (hR : Nat.ble (h + 1) R.frames = true ∧ Nat.ble (8 + (4 + 11) + 40 * h) R.locals = true) (hcl : Nat.ble cl R.cells = true ∧ Nat.ble sl R.slots = true) (hc : Ct E yX1_boundOf cX1_boundOf 4 ((some .long)) (rmH h) [vr (7, a, b), vi x0] M N (ql P)) (k : ∀ r M1 N1, R64 r → P r M1 N1 → Go E RX7 cc nL ret R cl sl Z (pc + 3) L (vl r :: st) M1 N1) : Go E RX7 cc nL ret R cl sl Z (pc) L (vi x0 :: vr (7, a, b) :: st) M N := go_callV (As := [vi x0]) hd l7_204 rfl rfl rfl hct ⟨rfl, rfl⟩ ⟨Nat.le_of_ble_eq_true hR.1, Nat.le_of_ble_eq_true hR.2⟩ hc hcl (fun r M1 N1 h => by obtain ⟨z, rfl, h1, h⟩ := h; exact k z M1 N1 h1 h)
theorem kyX1_sharedBy : Cond.code yX1_sharedBy cX1_sharedBy 5 ((some .int)) ∈ BIG := bg4 52 (rfl) rfl
theorem kiyX1_sharedBy : Cond.initialized yX1_sharedBy.cls ∈ BIG := bg1 3 (by decide +kernel) rfl
theorem knyX1_sharedBy : Cond.instanceMethod yX1_sharedBy ∈ BIG := bg4 50 (by decide +kernel) rfl
theorem ksyX1_sharedBy : Cond.selects yX1_sharedBy.cls yX1_sharedBy yX1_sharedBy ∈ BIG := bg4 51 (by decide +kernel) rfl
theorem mw7_213 : Cond.methodLink RX7 213 yX1_sharedBy ∈ BIG := bg4 49 (by decide +kernel) rfl
theorem l7_213 : LkV RX7 213 1 yX1_sharedBy cX1_sharedBy 5 ((some .int)) 2 := ⟨mw7_213, knyX1_sharedBy, ksyX1_sharedBy, kiyX1_sharedBy, kyX1_sharedBy, ⟨_, rfl, rfl⟩, rfl, by decide +kernel, by decide +kernel, by decide +kernel⟩
/-- RoundedSums$Forms.sharedBy -/
theorem v7_213 {E : Ev} {cc : ByteArray} {nL : Nat} {ret : Option FieldType} {R : Room} {cl sl : Nat} {Z : Zt} {pc : Nat} {L st : List Vv} {M : Mm} {N : Nn} {a b : Nat} {x0 : Int} {x1 : Int} {h : Nat} {P : Int → Mm → Nn → Prop} (hd : decode cc pc = .ok (.invokevirtual 213, 3)) (hct : Nat.ble (ctL st) 8 = true) (hR : Nat.ble (h + 1) R.frames = true ∧ Nat.ble (8 + (5 + 11) + 40 * h) R.locals = true) (hcl : Nat.ble cl R.cells = true ∧ Nat.ble sl R.slots = true) (hc : Ct E yX1_sharedBy cX1_sharedBy 5 ((some .int)) (rmH h) [vr (7, a, b), vi x0, vi x1] M N (qi P)) (k : ∀ r M1 N1, R32 r → P r M1 N1 → Go E RX7 cc nL ret R cl sl Z (pc + 3) L (vi r :: st) M1 N1) : Go E RX7 cc nL ret R cl sl Z (pc) L (vi x1 :: vi x0 :: vr (7, a, b) :: st) M N := go_callV (As := [vi x0, vi x1]) hd l7_213 rfl rfl rfl hct ⟨rfl, rfl⟩ ⟨Nat.le_of_ble_eq_true hR.1, Nat.le_of_ble_eq_true hR.2⟩ hc hcl (fun r M1 N1 h => by obtain ⟨z, rfl, h1, h⟩ := h; exact k z M1 N1 h1 h)
theorem kyX1_partOf : Cond.code yX1_partOf cX1_partOf 6 ((some .long)) ∈ BIG := bg4 60 (rfl) rfl
theorem kiyX1_partOf : Cond.initialized yX1_partOf.cls ∈ BIG := bg1 3 (by decide +kernel) rfl
theorem knyX1_partOf : Cond.instanceMethod yX1_partOf ∈ BIG := bg4 58 (by decide +kernel) rfl
theorem ksyX1_partOf : Cond.selects yX1_partOf.cls yX1_partOf yX1_partOf ∈ BIG := bg4 59 (by decide +kernel) rfl
theorem mw7_217 : Cond.methodLink RX7 217 yX1_partOf ∈ BIG := bg4 57 (by decide +kernel) rfl
theorem l7_217 : LkV RX7 217 1 yX1_partOf cX1_partOf 6 ((some .long)) 2 := ⟨mw7_217, knyX1_partOf, ksyX1_partOf, kiyX1_partOf, kyX1_partOf, ⟨_, rfl, rfl⟩, rfl, by decide +kernel, by decide +kernel, by decide +kernel⟩
/-- RoundedSums$Forms.partOf -/
theorem v7_217 {E : Ev} {cc : ByteArray} {nL : Nat} {ret : Option FieldType} {R : Room} {cl sl : Nat} {Z : Zt} {pc : Nat} {L st : List Vv} {M : Mm} {N : Nn} {a b : Nat} {x0 : Int} {x1 : Int} {h : Nat} {P : Int → Mm → Nn → Prop} (hd : decode cc pc = .ok (.invokevirtual 217, 3)) (hct : Nat.ble (ctL st) 8 = true) (hR : Nat.ble (h + 1) R.frames = true ∧ Nat.ble (8 + (6 + 11) + 40 * h) R.locals = true) (hcl : Nat.ble cl R.cells = true ∧ Nat.ble sl R.slots = true) (hc : Ct E yX1_partOf cX1_partOf 6 ((some .long)) (rmH h) [vr (7, a, b), vi x0, vi x1] M N (ql P)) (k : ∀ r M1 N1, R64 r → P r M1 N1 → Go E RX7 cc nL ret R cl sl Z (pc + 3) L (vl r :: st) M1 N1) : Go E RX7 cc nL ret R cl sl Z (pc) L (vi x1 :: vi x0 :: vr (7, a, b) :: st) M N := go_callV (As := [vi x0, vi x1]) hd l7_217 rfl rfl rfl hct ⟨rfl, rfl⟩ ⟨Nat.le_of_ble_eq_true hR.1, Nat.le_of_ble_eq_true hR.2⟩ hc hcl (fun r M1 N1 h => by obtain ⟨z, rfl, h1, h⟩ := h; exact k z M1 N1 h1 h)
theorem kyX1_blamed : Cond.code yX1_blamed cX1_blamed 9 ((some .int)) ∈ BIG := bg4 71 (rfl) rfl
theorem kiyX1_blamed : Cond.initialized yX1_blamed.cls ∈ BIG := bg1 3 (by decide +kernel) rfl
theorem knyX1_blamed : Cond.instanceMethod yX1_blamed ∈ BIG := bg4 69 (by decide +kernel) rfl
theorem ksyX1_blamed : Cond.selects yX1_blamed.cls yX1_blamed yX1_blamed ∈ BIG := bg4 70 (by decide +kernel) rfl
theorem mw7_221 : Cond.methodLink RX7 221 yX1_blamed ∈ BIG := bg4 68 (by decide +kernel) rfl
theorem l7_221 : LkV RX7 221 1 yX1_blamed cX1_blamed 9 ((some .int)) 2 := ⟨mw7_221, knyX1_blamed, ksyX1_blamed, kiyX1_blamed, kyX1_blamed, ⟨_, rfl, rfl⟩, rfl, by decide +kernel, by decide +kernel, by decide +kernel⟩
/-- RoundedSums$Forms.blamed -/
theorem v7_221 {E : Ev} {cc : ByteArray} {nL : Nat} {ret : Option FieldType} {R : Room} {cl sl : Nat} {Z : Zt} {pc : Nat} {L st : List Vv} {M : Mm} {N : Nn} {a b : Nat} {x0 : Nm} {x1 : Int} {h : Nat} {P : Int → Mm → Nn → Prop} (hd : decode cc pc = .ok (.invokevirtual 221, 3)) (hct : Nat.ble (ctL st) 8 = true) (hR : Nat.ble (h + 1) R.frames = true ∧ Nat.ble (8 + (9 + 11) + 40 * h) R.locals = true) (hcl : Nat.ble cl R.cells = true ∧ Nat.ble sl R.slots = true) (hc : Ct E yX1_blamed cX1_blamed 9 ((some .int)) (rmH h) [vr (7, a, b), vr x0, vi x1] M N (qi P)) (k : ∀ r M1 N1, R32 r → P r M1 N1 → Go E RX7 cc nL ret R cl sl Z (pc + 3) L (vi r :: st) M1 N1) : Go E RX7 cc nL ret R cl sl Z (pc) L (vi x1 :: vr x0 :: vr (7, a, b) :: st) M N := go_callV (As := [vr x0, vi x1]) hd l7_221 rfl rfl rfl hct ⟨rfl, rfl⟩ ⟨Nat.le_of_ble_eq_true hR.1, Nat.le_of_ble_eq_true hR.2⟩ hc hcl (fun r M1 N1 h => by obtain ⟨z, rfl, h1, h⟩ := h; exact k z M1 N1 h1 h)
theorem kyX2_begin : Cond.code yX2_begin cX2_begin 4 (none) ∈ BIG := bg4 85 (rfl) rfl
theorem kiyX2_begin : Cond.initialized yX2_begin.cls ∈ BIG := bg1 5 (by decide +kernel) rfl
theorem knyX2_begin : Cond.instanceMethod yX2_begin ∈ BIG := bg4 83 (by decide +kernel) rfl
theorem ksyX2_begin : Cond.selects yX2_begin.cls yX2_begin yX2_begin ∈ BIG := bg4 84 (by decide +kernel) rfl
theorem mw7_227 : Cond.methodLink RX7 227 yX2_begin ∈ BIG := bg4 82 (by decide +kernel) rfl
theorem l7_227 : LkV RX7 227 2 yX2_begin cX2_begin 4 (none) 2 := ⟨mw7_227, knyX2_begin, ksyX2_begin, kiyX2_begin, kyX2_begin, ⟨_, rfl, rfl⟩, rfl, by decide +kernel, by decide +kernel, by decide +kernel⟩
/-- RoundedSums$Pieces.begin -/
theorem v7_227 {E : Ev} {cc : ByteArray} {nL : Nat} {ret : Option FieldType} {R : Room} {cl sl : Nat} {Z : Zt} {pc : Nat} {L st : List Vv} {M : Mm} {N : Nn} {a b : Nat} {x0 : Nm} {x1 : Int} {h : Nat} {P : Mm → Nn → Prop} (hd : decode cc pc = .ok (.invokevirtual 227, 3)) (hct : Nat.ble (ctL st) 8 = true) (hR : Nat.ble (h + 1) R.frames = true ∧ Nat.ble (8 + (4 + 11) + 40 * h) R.locals = true) (hcl : Nat.ble cl R.cells = true ∧ Nat.ble sl R.slots = true) (hc : Ct E yX2_begin cX2_begin 4 (none) (rmH h) [vr (17, a, b), vr x0, vi x1] M N (qv P)) (k : ∀ M1 N1, P M1 N1 → Go E RX7 cc nL ret R cl sl Z (pc + 3) L (st) M1 N1) : Go E RX7 cc nL ret R cl sl Z (pc) L (vi x1 :: vr x0 :: vr (17, a, b) :: st) M N := go_callV (As := [vr x0, vi x1]) hd l7_227 rfl rfl rfl hct ⟨rfl, rfl⟩ ⟨Nat.le_of_ble_eq_true hR.1, Nat.le_of_ble_eq_true hR.2⟩ hc hcl (fun r M1 N1 h => by obtain ⟨rfl, h⟩ := h; exact k M1 N1 h)
theorem kyX2_splitWorst : Cond.code yX2_splitWorst cX2_splitWorst 5 ((some .boolean)) ∈ BIG := bg4 102 (rfl) rfl
theorem kiyX2_splitWorst : Cond.initialized yX2_splitWorst.cls ∈ BIG := bg1 5 (by decide +kernel) rfl
theorem knyX2_splitWorst : Cond.instanceMethod yX2_splitWorst ∈ BIG := bg4 100 (by decide +kernel) rfl
theorem ksyX2_splitWorst : Cond.selects yX2_splitWorst.cls yX2_splitWorst yX2_splitWorst ∈ BIG := bg4 101 (by decide +kernel) rfl
theorem mw7_231 : Cond.methodLink RX7 231 yX2_splitWorst ∈ BIG := bg4 99 (by decide +kernel) rfl
theorem l7_231 : LkV RX7 231 2 yX2_splitWorst cX2_splitWorst 5 ((some .boolean)) 0 := ⟨mw7_231, knyX2_splitWorst, ksyX2_splitWorst, kiyX2_splitWorst, kyX2_splitWorst, ⟨_, rfl, rfl⟩, rfl, by decide +kernel, by decide +kernel, by decide +kernel⟩
/-- RoundedSums$Pieces.splitWorst -/
theorem v7_231 {E : Ev} {cc : ByteArray} {nL : Nat} {ret : Option FieldType} {R : Room} {cl sl : Nat} {Z : Zt} {pc : Nat} {L st : List Vv} {M : Mm} {N : Nn} {a b : Nat}  {h : Nat} {P : Int → Mm → Nn → Prop} (hd : decode cc pc = .ok (.invokevirtual 231, 3)) (hct : Nat.ble (ctL st) 8 = true) (hR : Nat.ble (h + 1) R.frames = true ∧ Nat.ble (8 + (5 + 11) + 40 * h) R.locals = true) (hcl : Nat.ble cl R.cells = true ∧ Nat.ble sl R.slots = true) (hc : Ct E yX2_splitWorst cX2_splitWorst 5 ((some .boolean)) (rmH h) [vr (17, a, b)] M N (qi P)) (k : ∀ r M1 N1, R32 r → P r M1 N1 → Go E RX7 cc nL ret R cl sl Z (pc + 3) L (vi r :: st) M1 N1) : Go E RX7 cc nL ret R cl sl Z (pc) L (vr (17, a, b) :: st) M N := go_callV (As := []) hd l7_231 rfl rfl rfl hct ⟨rfl, rfl⟩ ⟨Nat.le_of_ble_eq_true hR.1, Nat.le_of_ble_eq_true hR.2⟩ hc hcl (fun r M1 N1 h => by obtain ⟨z, rfl, h1, h⟩ := h; exact k z M1 N1 h1 h)
theorem kyX2_greatestBound : Cond.code yX2_greatestBound cX2_greatestBound 1 ((some .long)) ∈ BIG := bg4 120 (rfl) rfl
theorem kiyX2_greatestBound : Cond.initialized yX2_greatestBound.cls ∈ BIG := bg1 5 (by decide +kernel) rfl
theorem knyX2_greatestBound : Cond.instanceMethod yX2_greatestBound ∈ BIG := bg4 118 (by decide +kernel) rfl
theorem ksyX2_greatestBound : Cond.selects yX2_greatestBound.cls yX2_greatestBound yX2_greatestBound ∈ BIG := bg4 119 (by decide +kernel) rfl
theorem mw7_235 : Cond.methodLink RX7 235 yX2_greatestBound ∈ BIG := bg4 117 (by decide +kernel) rfl
theorem l7_235 : LkV RX7 235 2 yX2_greatestBound cX2_greatestBound 1 ((some .long)) 0 := ⟨mw7_235, knyX2_greatestBound, ksyX2_greatestBound, kiyX2_greatestBound, kyX2_greatestBound, ⟨_, rfl, rfl⟩, rfl, by decide +kernel, by decide +kernel, by decide +kernel⟩
/-- RoundedSums$Pieces.greatestBound -/
theorem v7_235 {E : Ev} {cc : ByteArray} {nL : Nat} {ret : Option FieldType} {R : Room} {cl sl : Nat} {Z : Zt} {pc : Nat} {L st : List Vv} {M : Mm} {N : Nn} {a b : Nat}  {h : Nat} {P : Int → Mm → Nn → Prop} (hd : decode cc pc = .ok (.invokevirtual 235, 3)) (hct : Nat.ble (ctL st) 8 = true) (hR : Nat.ble (h + 1) R.frames = true ∧ Nat.ble (8 + (1 + 11) + 40 * h) R.locals = true) (hcl : Nat.ble cl R.cells = true ∧ Nat.ble sl R.slots = true) (hc : Ct E yX2_greatestBound cX2_greatestBound 1 ((some .long)) (rmH h) [vr (17, a, b)] M N (ql P)) (k : ∀ r M1 N1, R64 r → P r M1 N1 → Go E RX7 cc nL ret R cl sl Z (pc + 3) L (vl r :: st) M1 N1) : Go E RX7 cc nL ret R cl sl Z (pc) L (vr (17, a, b) :: st) M N := go_callV (As := []) hd l7_235 rfl rfl rfl hct ⟨rfl, rfl⟩ ⟨Nat.le_of_ble_eq_true hR.1, Nat.le_of_ble_eq_true hR.2⟩ hc hcl (fun r M1 N1 h => by obtain ⟨z, rfl, h1, h⟩ := h; exact k z M1 N1 h1 h)
theorem kyX2_living : Cond.code yX2_living cX2_living 1 ((some .int)) ∈ BIG := bg4 124 (rfl) rfl
theorem kiyX2_living : Cond.initialized yX2_living.cls ∈ BIG := bg1 5 (by decide +kernel) rfl
theorem knyX2_living : Cond.instanceMethod yX2_living ∈ BIG := bg4 122 (by decide +kernel) rfl
theorem ksyX2_living : Cond.selects yX2_living.cls yX2_living yX2_living ∈ BIG := bg4 123 (by decide +kernel) rfl
theorem mw7_238 : Cond.methodLink RX7 238 yX2_living ∈ BIG := bg4 121 (by decide +kernel) rfl
theorem l7_238 : LkV RX7 238 2 yX2_living cX2_living 1 ((some .int)) 0 := ⟨mw7_238, knyX2_living, ksyX2_living, kiyX2_living, kyX2_living, ⟨_, rfl, rfl⟩, rfl, by decide +kernel, by decide +kernel, by decide +kernel⟩
/-- RoundedSums$Pieces.living -/
theorem v7_238 {E : Ev} {cc : ByteArray} {nL : Nat} {ret : Option FieldType} {R : Room} {cl sl : Nat} {Z : Zt} {pc : Nat} {L st : List Vv} {M : Mm} {N : Nn} {a b : Nat}  {h : Nat} {P : Int → Mm → Nn → Prop} (hd : decode cc pc = .ok (.invokevirtual 238, 3)) (hct : Nat.ble (ctL st) 8 = true) (hR : Nat.ble (h + 1) R.frames = true ∧ Nat.ble (8 + (1 + 11) + 40 * h) R.locals = true) (hcl : Nat.ble cl R.cells = true ∧ Nat.ble sl R.slots = true) (hc : Ct E yX2_living cX2_living 1 ((some .int)) (rmH h) [vr (17, a, b)] M N (qi P)) (k : ∀ r M1 N1, R32 r → P r M1 N1 → Go E RX7 cc nL ret R cl sl Z (pc + 3) L (vi r :: st) M1 N1) : Go E RX7 cc nL ret R cl sl Z (pc) L (vr (17, a, b) :: st) M N := go_callV (As := []) hd l7_238 rfl rfl rfl hct ⟨rfl, rfl⟩ ⟨Nat.le_of_ble_eq_true hR.1, Nat.le_of_ble_eq_true hR.2⟩ hc hcl (fun r M1 N1 h => by obtain ⟨z, rfl, h1, h⟩ := h; exact k z M1 N1 h1 h)
theorem kyX7_isLimit : Cond.code yX7_isLimit cX7_isLimit 1 ((some .boolean)) ∈ BIG := bg4 131 (rfl) rfl
theorem kiyX7_isLimit : Cond.initialized yX7_isLimit.cls ∈ BIG := bg1 1 (by decide +kernel) rfl
theorem ktyX7_isLimit : Cond.static yX7_isLimit ∈ BIG := bg4 130 (by decide +kernel) rfl
theorem mw7_241 : Cond.methodLink RX7 241 yX7_isLimit ∈ BIG := bg4 129 (by decide +kernel) rfl
theorem l7_241 : LkS RX7 241 yX7_isLimit cX7_isLimit 1 ((some .boolean)) 1 := ⟨mw7_241, ktyX7_isLimit, kiyX7_isLimit, kyX7_isLimit, by decide +kernel, by decide +kernel, by decide +kernel⟩
/-- RoundedSums.isLimit -/
theorem v7_241 {E : Ev} {cc : ByteArray} {nL : Nat} {ret : Option FieldType} {R : Room} {cl sl : Nat} {Z : Zt} {pc : Nat} {L st : List Vv} {M : Mm} {N : Nn} {x0 : Int} {h : Nat} {P : Int → Mm → Nn → Prop} (hd : decode cc pc = .ok (.invokestatic 241, 3)) (hct : Nat.ble (ctL st) 8 = true) (hR : Nat.ble (h + 1) R.frames = true ∧ Nat.ble (8 + (1 + 11) + 40 * h) R.locals = true) (hcl : Nat.ble cl R.cells = true ∧ Nat.ble sl R.slots = true) (hc : Ct E yX7_isLimit cX7_isLimit 1 ((some .boolean)) (rmH h) [vi x0] M N (qi P)) (k : ∀ r M1 N1, R32 r → P r M1 N1 → Go E RX7 cc nL ret R cl sl Z (pc + 3) L (vi r :: st) M1 N1) : Go E RX7 cc nL ret R cl sl Z (pc) L (vi x0 :: st) M N := go_callS (As := [vi x0]) hd l7_241 rfl rfl hct ⟨rfl, rfl⟩ ⟨Nat.le_of_ble_eq_true hR.1, Nat.le_of_ble_eq_true hR.2⟩ hc hcl (fun r M1 N1 h => by obtain ⟨z, rfl, h1, h⟩ := h; exact k z M1 N1 h1 h)
theorem kyX7_isSeed : Cond.code yX7_isSeed cX7_isSeed 1 ((some .boolean)) ∈ BIG := bg4 139 (rfl) rfl
theorem kiyX7_isSeed : Cond.initialized yX7_isSeed.cls ∈ BIG := bg1 1 (by decide +kernel) rfl
theorem ktyX7_isSeed : Cond.static yX7_isSeed ∈ BIG := bg4 138 (by decide +kernel) rfl
theorem mw7_244 : Cond.methodLink RX7 244 yX7_isSeed ∈ BIG := bg4 137 (by decide +kernel) rfl
theorem l7_244 : LkS RX7 244 yX7_isSeed cX7_isSeed 1 ((some .boolean)) 1 := ⟨mw7_244, ktyX7_isSeed, kiyX7_isSeed, kyX7_isSeed, by decide +kernel, by decide +kernel, by decide +kernel⟩
/-- RoundedSums.isSeed -/
theorem v7_244 {E : Ev} {cc : ByteArray} {nL : Nat} {ret : Option FieldType} {R : Room} {cl sl : Nat} {Z : Zt} {pc : Nat} {L st : List Vv} {M : Mm} {N : Nn} {x0 : Int} {h : Nat} {P : Int → Mm → Nn → Prop} (hd : decode cc pc = .ok (.invokestatic 244, 3)) (hct : Nat.ble (ctL st) 8 = true) (hR : Nat.ble (h + 1) R.frames = true ∧ Nat.ble (8 + (1 + 11) + 40 * h) R.locals = true) (hcl : Nat.ble cl R.cells = true ∧ Nat.ble sl R.slots = true) (hc : Ct E yX7_isSeed cX7_isSeed 1 ((some .boolean)) (rmH h) [vi x0] M N (qi P)) (k : ∀ r M1 N1, R32 r → P r M1 N1 → Go E RX7 cc nL ret R cl sl Z (pc + 3) L (vi r :: st) M1 N1) : Go E RX7 cc nL ret R cl sl Z (pc) L (vi x0 :: st) M N := go_callS (As := [vi x0]) hd l7_244 rfl rfl hct ⟨rfl, rfl⟩ ⟨Nat.le_of_ble_eq_true hR.1, Nat.le_of_ble_eq_true hR.2⟩ hc hcl (fun r M1 N1 h => by obtain ⟨z, rfl, h1, h⟩ := h; exact k z M1 N1 h1 h)
theorem kyX6_seek : Cond.code yX6_seek cX6_seek 8 (none) ∈ BIG := bg4 144 (rfl) rfl
theorem kiyX6_seek : Cond.initialized yX6_seek.cls ∈ BIG := bg1 7 (by decide +kernel) rfl
theorem knyX6_seek : Cond.instanceMethod yX6_seek ∈ BIG := bg4 142 (by decide +kernel) rfl
theorem ksyX6_seek : Cond.selects yX6_seek.cls yX6_seek yX6_seek ∈ BIG := bg4 143 (by decide +kernel) rfl
theorem mw7_247 : Cond.methodLink RX7 247 yX6_seek ∈ BIG := bg4 141 (by decide +kernel) rfl
theorem l7_247 : LkV RX7 247 6 yX6_seek cX6_seek 8 (none) 4 := ⟨mw7_247, knyX6_seek, ksyX6_seek, kiyX6_seek, kyX6_seek, ⟨_, rfl, rfl⟩, rfl, by decide +kernel, by decide +kernel, by decide +kernel⟩
/-- RoundedSums$Seeker.seek -/
theorem v7_247 {E : Ev} {cc : ByteArray} {nL : Nat} {ret : Option FieldType} {R : Room} {cl sl : Nat} {Z : Zt} {pc : Nat} {L st : List Vv} {M : Mm} {N : Nn} {a b : Nat} {x0 : Nm} {x1 : Int} {x2 : Int} {x3 : Int} {h : Nat} {P : Mm → Nn → Prop} (hd : decode cc pc = .ok (.invokevirtual 247, 3)) (hct : Nat.ble (ctL st) 8 = true) (hR : Nat.ble (h + 1) R.frames = true ∧ Nat.ble (8 + (8 + 11) + 40 * h) R.locals = true) (hcl : Nat.ble cl R.cells = true ∧ Nat.ble sl R.slots = true) (hc : Ct E yX6_seek cX6_seek 8 (none) (rmH h) [vr (23, a, b), vr x0, vi x1, vi x2, vi x3] M N (qv P)) (k : ∀ M1 N1, P M1 N1 → Go E RX7 cc nL ret R cl sl Z (pc + 3) L (st) M1 N1) : Go E RX7 cc nL ret R cl sl Z (pc) L (vi x3 :: vi x2 :: vi x1 :: vr x0 :: vr (23, a, b) :: st) M N := go_callV (As := [vr x0, vi x1, vi x2, vi x3]) hd l7_247 rfl rfl rfl hct ⟨rfl, rfl⟩ ⟨Nat.le_of_ble_eq_true hR.1, Nat.le_of_ble_eq_true hR.2⟩ hc hcl (fun r M1 N1 h => by obtain ⟨rfl, h⟩ := h; exact k M1 N1 h)
theorem kyX6_greatestOfAll : Cond.code yX6_greatestOfAll cX6_greatestOfAll 6 ((some .long)) ∈ BIG := bg4 187 (rfl) rfl
theorem kiyX6_greatestOfAll : Cond.initialized yX6_greatestOfAll.cls ∈ BIG := bg1 7 (by decide +kernel) rfl
theorem knyX6_greatestOfAll : Cond.instanceMethod yX6_greatestOfAll ∈ BIG := bg4 185 (by decide +kernel) rfl
theorem ksyX6_greatestOfAll : Cond.selects yX6_greatestOfAll.cls yX6_greatestOfAll yX6_greatestOfAll ∈ BIG := bg4 186 (by decide +kernel) rfl
theorem mw7_258 : Cond.methodLink RX7 258 yX6_greatestOfAll ∈ BIG := bg4 184 (by decide +kernel) rfl
theorem l7_258 : LkV RX7 258 6 yX6_greatestOfAll cX6_greatestOfAll 6 ((some .long)) 2 := ⟨mw7_258, knyX6_greatestOfAll, ksyX6_greatestOfAll, kiyX6_greatestOfAll, kyX6_greatestOfAll, ⟨_, rfl, rfl⟩, rfl, by decide +kernel, by decide +kernel, by decide +kernel⟩
/-- RoundedSums$Seeker.greatestOfAll -/
theorem v7_258 {E : Ev} {cc : ByteArray} {nL : Nat} {ret : Option FieldType} {R : Room} {cl sl : Nat} {Z : Zt} {pc : Nat} {L st : List Vv} {M : Mm} {N : Nn} {a b : Nat} {x0 : Nm} {x1 : Int} {h : Nat} {P : Int → Mm → Nn → Prop} (hd : decode cc pc = .ok (.invokevirtual 258, 3)) (hct : Nat.ble (ctL st) 8 = true) (hR : Nat.ble (h + 1) R.frames = true ∧ Nat.ble (8 + (6 + 11) + 40 * h) R.locals = true) (hcl : Nat.ble cl R.cells = true ∧ Nat.ble sl R.slots = true) (hc : Ct E yX6_greatestOfAll cX6_greatestOfAll 6 ((some .long)) (rmH h) [vr (23, a, b), vr x0, vi x1] M N (ql P)) (k : ∀ r M1 N1, R64 r → P r M1 N1 → Go E RX7 cc nL ret R cl sl Z (pc + 3) L (vl r :: st) M1 N1) : Go E RX7 cc nL ret R cl sl Z (pc) L (vi x1 :: vr x0 :: vr (23, a, b) :: st) M N := go_callV (As := [vr x0, vi x1]) hd l7_258 rfl rfl rfl hct ⟨rfl, rfl⟩ ⟨Nat.le_of_ble_eq_true hR.1, Nat.le_of_ble_eq_true hR.2⟩ hc hcl (fun r M1 N1 h => by obtain ⟨z, rfl, h1, h⟩ := h; exact k z M1 N1 h1 h)
theorem kyX6_firstParting : Cond.code yX6_firstParting cX6_firstParting 7 ((some .int)) ∈ BIG := bg4 201 (rfl) rfl
theorem kiyX6_firstParting : Cond.initialized yX6_firstParting.cls ∈ BIG := bg1 7 (by decide +kernel) rfl
theorem knyX6_firstParting : Cond.instanceMethod yX6_firstParting ∈ BIG := bg4 199 (by decide +kernel) rfl
theorem ksyX6_firstParting : Cond.selects yX6_firstParting.cls yX6_firstParting yX6_firstParting ∈ BIG := bg4 200 (by decide +kernel) rfl
theorem mw7_262 : Cond.methodLink RX7 262 yX6_firstParting ∈ BIG := bg4 198 (by decide +kernel) rfl
theorem l7_262 : LkV RX7 262 6 yX6_firstParting cX6_firstParting 7 ((some .int)) 4 := ⟨mw7_262, knyX6_firstParting, ksyX6_firstParting, kiyX6_firstParting, kyX6_firstParting, ⟨_, rfl, rfl⟩, rfl, by decide +kernel, by decide +kernel, by decide +kernel⟩
/-- RoundedSums$Seeker.firstParting -/
theorem v7_262 {E : Ev} {cc : ByteArray} {nL : Nat} {ret : Option FieldType} {R : Room} {cl sl : Nat} {Z : Zt} {pc : Nat} {L st : List Vv} {M : Mm} {N : Nn} {a b : Nat} {x0 : Nm} {x1 : Int} {x2 : Int} {x3 : Int} {h : Nat} {P : Int → Mm → Nn → Prop} (hd : decode cc pc = .ok (.invokevirtual 262, 3)) (hct : Nat.ble (ctL st) 8 = true) (hR : Nat.ble (h + 1) R.frames = true ∧ Nat.ble (8 + (7 + 11) + 40 * h) R.locals = true) (hcl : Nat.ble cl R.cells = true ∧ Nat.ble sl R.slots = true) (hc : Ct E yX6_firstParting cX6_firstParting 7 ((some .int)) (rmH h) [vr (23, a, b), vr x0, vi x1, vi x2, vi x3] M N (qi P)) (k : ∀ r M1 N1, R32 r → P r M1 N1 → Go E RX7 cc nL ret R cl sl Z (pc + 3) L (vi r :: st) M1 N1) : Go E RX7 cc nL ret R cl sl Z (pc) L (vi x3 :: vi x2 :: vi x1 :: vr x0 :: vr (23, a, b) :: st) M N := go_callV (As := [vr x0, vi x1, vi x2, vi x3]) hd l7_262 rfl rfl rfl hct ⟨rfl, rfl⟩ ⟨Nat.le_of_ble_eq_true hR.1, Nat.le_of_ble_eq_true hR.2⟩ hc hcl (fun r M1 N1 h => by obtain ⟨z, rfl, h1, h⟩ := h; exact k z M1 N1 h1 h)
theorem kyX3_copy : Cond.code yX3_copy cX3_copy 2 (none) ∈ BIG := bg4 89 (rfl) rfl
theorem kiyX3_copy : Cond.initialized yX3_copy.cls ∈ BIG := bg1 6 (by decide +kernel) rfl
theorem knyX3_copy : Cond.instanceMethod yX3_copy ∈ BIG := bg4 87 (by decide +kernel) rfl
theorem ksyX3_copy : Cond.selects yX3_copy.cls yX3_copy yX3_copy ∈ BIG := bg4 88 (by decide +kernel) rfl
theorem mw7_269 : Cond.methodLink RX7 269 yX3_copy ∈ BIG := bg4 207 (by decide +kernel) rfl
theorem l7_269 : LkV RX7 269 3 yX3_copy cX3_copy 2 (none) 1 := ⟨mw7_269, knyX3_copy, ksyX3_copy, kiyX3_copy, kyX3_copy, ⟨_, rfl, rfl⟩, rfl, by decide +kernel, by decide +kernel, by decide +kernel⟩
/-- RoundedSums$Program.copy -/
theorem v7_269 {E : Ev} {cc : ByteArray} {nL : Nat} {ret : Option FieldType} {R : Room} {cl sl : Nat} {Z : Zt} {pc : Nat} {L st : List Vv} {M : Mm} {N : Nn} {a b : Nat} {x0 : Nm} {h : Nat} {P : Mm → Nn → Prop} (hd : decode cc pc = .ok (.invokevirtual 269, 3)) (hct : Nat.ble (ctL st) 8 = true) (hR : Nat.ble (h + 1) R.frames = true ∧ Nat.ble (8 + (2 + 11) + 40 * h) R.locals = true) (hcl : Nat.ble cl R.cells = true ∧ Nat.ble sl R.slots = true) (hc : Ct E yX3_copy cX3_copy 2 (none) (rmH h) [vr (18, a, b), vr x0] M N (qv P)) (k : ∀ M1 N1, P M1 N1 → Go E RX7 cc nL ret R cl sl Z (pc + 3) L (st) M1 N1) : Go E RX7 cc nL ret R cl sl Z (pc) L (vr x0 :: vr (18, a, b) :: st) M N := go_callV (As := [vr x0]) hd l7_269 rfl rfl rfl hct ⟨rfl, rfl⟩ ⟨Nat.le_of_ble_eq_true hR.1, Nat.le_of_ble_eq_true hR.2⟩ hc hcl (fun r M1 N1 h => by obtain ⟨rfl, h⟩ := h; exact k M1 N1 h)
theorem kyX1_reckon : Cond.code yX1_reckon cX1_reckon 5 (none) ∈ BIG := bg3 81 (rfl) rfl
theorem kiyX1_reckon : Cond.initialized yX1_reckon.cls ∈ BIG := bg1 3 (by decide +kernel) rfl
theorem knyX1_reckon : Cond.instanceMethod yX1_reckon ∈ BIG := bg3 79 (by decide +kernel) rfl
theorem ksyX1_reckon : Cond.selects yX1_reckon.cls yX1_reckon yX1_reckon ∈ BIG := bg3 80 (by decide +kernel) rfl
theorem mw7_276 : Cond.methodLink RX7 276 yX1_reckon ∈ BIG := bg3 78 (by decide +kernel) rfl
theorem l7_276 : LkV RX7 276 1 yX1_reckon cX1_reckon 5 (none) 2 := ⟨mw7_276, knyX1_reckon, ksyX1_reckon, kiyX1_reckon, kyX1_reckon, ⟨_, rfl, rfl⟩, rfl, by decide +kernel, by decide +kernel, by decide +kernel⟩
/-- RoundedSums$Forms.reckon -/
theorem v7_276 {E : Ev} {cc : ByteArray} {nL : Nat} {ret : Option FieldType} {R : Room} {cl sl : Nat} {Z : Zt} {pc : Nat} {L st : List Vv} {M : Mm} {N : Nn} {a b : Nat} {x0 : Nm} {x1 : Int} {h : Nat} {P : Mm → Nn → Prop} (hd : decode cc pc = .ok (.invokevirtual 276, 3)) (hct : Nat.ble (ctL st) 8 = true) (hR : Nat.ble (h + 1) R.frames = true ∧ Nat.ble (8 + (5 + 11) + 40 * h) R.locals = true) (hcl : Nat.ble cl R.cells = true ∧ Nat.ble sl R.slots = true) (hc : Ct E yX1_reckon cX1_reckon 5 (none) (rmH h) [vr (7, a, b), vr x0, vi x1] M N (qv P)) (k : ∀ M1 N1, P M1 N1 → Go E RX7 cc nL ret R cl sl Z (pc + 3) L (st) M1 N1) : Go E RX7 cc nL ret R cl sl Z (pc) L (vi x1 :: vr x0 :: vr (7, a, b) :: st) M N := go_callV (As := [vr x0, vi x1]) hd l7_276 rfl rfl rfl hct ⟨rfl, rfl⟩ ⟨Nat.le_of_ble_eq_true hR.1, Nat.le_of_ble_eq_true hR.2⟩ hc hcl (fun r M1 N1 h => by obtain ⟨rfl, h⟩ := h; exact k M1 N1 h)
theorem kyX3_settleAll : Cond.code yX3_settleAll cX3_settleAll 2 ((some .boolean)) ∈ BIG := bg4 211 (rfl) rfl
theorem kiyX3_settleAll : Cond.initialized yX3_settleAll.cls ∈ BIG := bg1 6 (by decide +kernel) rfl
theorem knyX3_settleAll : Cond.instanceMethod yX3_settleAll ∈ BIG := bg4 209 (by decide +kernel) rfl
theorem ksyX3_settleAll : Cond.selects yX3_settleAll.cls yX3_settleAll yX3_settleAll ∈ BIG := bg4 210 (by decide +kernel) rfl
theorem mw7_279 : Cond.methodLink RX7 279 yX3_settleAll ∈ BIG := bg4 208 (by decide +kernel) rfl
theorem l7_279 : LkV RX7 279 3 yX3_settleAll cX3_settleAll 2 ((some .boolean)) 0 := ⟨mw7_279, knyX3_settleAll, ksyX3_settleAll, kiyX3_settleAll, kyX3_settleAll, ⟨_, rfl, rfl⟩, rfl, by decide +kernel, by decide +kernel, by decide +kernel⟩
/-- RoundedSums$Program.settleAll -/
theorem v7_279 {E : Ev} {cc : ByteArray} {nL : Nat} {ret : Option FieldType} {R : Room} {cl sl : Nat} {Z : Zt} {pc : Nat} {L st : List Vv} {M : Mm} {N : Nn} {a b : Nat}  {h : Nat} {P : Int → Mm → Nn → Prop} (hd : decode cc pc = .ok (.invokevirtual 279, 3)) (hct : Nat.ble (ctL st) 8 = true) (hR : Nat.ble (h + 1) R.frames = true ∧ Nat.ble (8 + (2 + 11) + 40 * h) R.locals = true) (hcl : Nat.ble cl R.cells = true ∧ Nat.ble sl R.slots = true) (hc : Ct E yX3_settleAll cX3_settleAll 2 ((some .boolean)) (rmH h) [vr (18, a, b)] M N (qi P)) (k : ∀ r M1 N1, R32 r → P r M1 N1 → Go E RX7 cc nL ret R cl sl Z (pc + 3) L (vi r :: st) M1 N1) : Go E RX7 cc nL ret R cl sl Z (pc) L (vr (18, a, b) :: st) M N := go_callV (As := []) hd l7_279 rfl rfl rfl hct ⟨rfl, rfl⟩ ⟨Nat.le_of_ble_eq_true hR.1, Nat.le_of_ble_eq_true hR.2⟩ hc hcl (fun r M1 N1 h => by obtain ⟨z, rfl, h1, h⟩ := h; exact k z M1 N1 h1 h)
theorem kyX7_isNumber : Cond.code yX7_isNumber cX7_isNumber 1 ((some .boolean)) ∈ BIG := bg2 230 (rfl) rfl
theorem kiyX7_isNumber : Cond.initialized yX7_isNumber.cls ∈ BIG := bg1 1 (by decide +kernel) rfl
theorem ktyX7_isNumber : Cond.static yX7_isNumber ∈ BIG := bg2 229 (by decide +kernel) rfl
theorem mw7_282 : Cond.methodLink RX7 282 yX7_isNumber ∈ BIG := bg2 234 (by decide +kernel) rfl
theorem l7_282 : LkS RX7 282 yX7_isNumber cX7_isNumber 1 ((some .boolean)) 1 := ⟨mw7_282, ktyX7_isNumber, kiyX7_isNumber, kyX7_isNumber, by decide +kernel, by decide +kernel, by decide +kernel⟩
/-- RoundedSums.isNumber -/
theorem v7_282 {E : Ev} {cc : ByteArray} {nL : Nat} {ret : Option FieldType} {R : Room} {cl sl : Nat} {Z : Zt} {pc : Nat} {L st : List Vv} {M : Mm} {N : Nn} {x0 : Int} {h : Nat} {P : Int → Mm → Nn → Prop} (hd : decode cc pc = .ok (.invokestatic 282, 3)) (hct : Nat.ble (ctL st) 8 = true) (hR : Nat.ble (h + 1) R.frames = true ∧ Nat.ble (8 + (1 + 11) + 40 * h) R.locals = true) (hcl : Nat.ble cl R.cells = true ∧ Nat.ble sl R.slots = true) (hc : Ct E yX7_isNumber cX7_isNumber 1 ((some .boolean)) (rmH h) [vi x0] M N (qi P)) (k : ∀ r M1 N1, R32 r → P r M1 N1 → Go E RX7 cc nL ret R cl sl Z (pc + 3) L (vi r :: st) M1 N1) : Go E RX7 cc nL ret R cl sl Z (pc) L (vi x0 :: st) M N := go_callS (As := [vi x0]) hd l7_282 rfl rfl hct ⟨rfl, rfl⟩ ⟨Nat.le_of_ble_eq_true hR.1, Nat.le_of_ble_eq_true hR.2⟩ hc hcl (fun r M1 N1 h => by obtain ⟨z, rfl, h1, h⟩ := h; exact k z M1 N1 h1 h)
theorem kyX7_isEndOf : Cond.code yX7_isEndOf cX7_isEndOf 2 ((some .boolean)) ∈ BIG := bg2 233 (rfl) rfl
theorem kiyX7_isEndOf : Cond.initialized yX7_isEndOf.cls ∈ BIG := bg1 1 (by decide +kernel) rfl
theorem ktyX7_isEndOf : Cond.static yX7_isEndOf ∈ BIG := bg2 232 (by decide +kernel) rfl
theorem mw7_285 : Cond.methodLink RX7 285 yX7_isEndOf ∈ BIG := bg4 220 (by decide +kernel) rfl
theorem l7_285 : LkS RX7 285 yX7_isEndOf cX7_isEndOf 2 ((some .boolean)) 2 := ⟨mw7_285, ktyX7_isEndOf, kiyX7_isEndOf, kyX7_isEndOf, by decide +kernel, by decide +kernel, by decide +kernel⟩
/-- RoundedSums.isEndOf -/
theorem v7_285 {E : Ev} {cc : ByteArray} {nL : Nat} {ret : Option FieldType} {R : Room} {cl sl : Nat} {Z : Zt} {pc : Nat} {L st : List Vv} {M : Mm} {N : Nn} {x0 : Int} {x1 : Int} {h : Nat} {P : Int → Mm → Nn → Prop} (hd : decode cc pc = .ok (.invokestatic 285, 3)) (hct : Nat.ble (ctL st) 8 = true) (hR : Nat.ble (h + 1) R.frames = true ∧ Nat.ble (8 + (2 + 11) + 40 * h) R.locals = true) (hcl : Nat.ble cl R.cells = true ∧ Nat.ble sl R.slots = true) (hc : Ct E yX7_isEndOf cX7_isEndOf 2 ((some .boolean)) (rmH h) [vi x0, vi x1] M N (qi P)) (k : ∀ r M1 N1, R32 r → P r M1 N1 → Go E RX7 cc nL ret R cl sl Z (pc + 3) L (vi r :: st) M1 N1) : Go E RX7 cc nL ret R cl sl Z (pc) L (vi x1 :: vi x0 :: st) M N := go_callS (As := [vi x0, vi x1]) hd l7_285 rfl rfl hct ⟨rfl, rfl⟩ ⟨Nat.le_of_ble_eq_true hR.1, Nat.le_of_ble_eq_true hR.2⟩ hc hcl (fun r M1 N1 h => by obtain ⟨z, rfl, h1, h⟩ := h; exact k z M1 N1 h1 h)
theorem kyX0_addNumbers : Cond.code yX0_addNumbers cX0_addNumbers 5 (none) ∈ BIG := bg3 113 (rfl) rfl
theorem kiyX0_addNumbers : Cond.initialized yX0_addNumbers.cls ∈ BIG := bg1 4 (by decide +kernel) rfl
theorem knyX0_addNumbers : Cond.instanceMethod yX0_addNumbers ∈ BIG := bg3 111 (by decide +kernel) rfl
theorem ksyX0_addNumbers : Cond.selects yX0_addNumbers.cls yX0_addNumbers yX0_addNumbers ∈ BIG := bg3 112 (by decide +kernel) rfl
theorem mw0_23 : Cond.methodLink RX0 23 yX0_addNumbers ∈ BIG := bg3 110 (by decide +kernel) rfl
theorem l0_23 : LkV RX0 23 0 yX0_addNumbers cX0_addNumbers 5 (none) 2 := ⟨mw0_23, knyX0_addNumbers, ksyX0_addNumbers, kiyX0_addNumbers, kyX0_addNumbers, ⟨_, rfl, rfl⟩, rfl, by decide +kernel, by decide +kernel, by decide +kernel⟩
/-- RoundedSums$Form.addNumbers -/
theorem v0_23 {E : Ev} {cc : ByteArray} {nL : Nat} {ret : Option FieldType} {R : Room} {cl sl : Nat} {Z : Zt} {pc : Nat} {L st : List Vv} {M : Mm} {N : Nn} {a b : Nat} {x0 : Nm} {x1 : Int} {h : Nat} {P : Mm → Nn → Prop} (hd : decode cc pc = .ok (.invokevirtual 23, 3)) (hct : Nat.ble (ctL st) 8 = true) (hR : Nat.ble (h + 1) R.frames = true ∧ Nat.ble (8 + (5 + 11) + 40 * h) R.locals = true) (hcl : Nat.ble cl R.cells = true ∧ Nat.ble sl R.slots = true) (hc : Ct E yX0_addNumbers cX0_addNumbers 5 (none) (rmH h) [vr (15, a, b), vr x0, vl x1] M N (qv P)) (k : ∀ M1 N1, P M1 N1 → Go E RX0 cc nL ret R cl sl Z (pc + 3) L (st) M1 N1) : Go E RX0 cc nL ret R cl sl Z (pc) L (vl x1 :: vr x0 :: vr (15, a, b) :: st) M N := go_callV (As := [vr x0, vl x1]) hd l0_23 rfl rfl rfl hct ⟨rfl, rfl⟩ ⟨Nat.le_of_ble_eq_true hR.1, Nat.le_of_ble_eq_true hR.2⟩ hc hcl (fun r M1 N1 h => by obtain ⟨rfl, h⟩ := h; exact k M1 N1 h)
theorem mw0_27 : Cond.methodLink RX0 27 yX0_radius ∈ BIG := bg3 148 (by decide +kernel) rfl
theorem l0_27 : LkV RX0 27 0 yX0_radius cX0_radius 4 ((some .long)) 0 := ⟨mw0_27, knyX0_radius, ksyX0_radius, kiyX0_radius, kyX0_radius, ⟨_, rfl, rfl⟩, rfl, by decide +kernel, by decide +kernel, by decide +kernel⟩
/-- RoundedSums$Form.radius -/
theorem v0_27 {E : Ev} {cc : ByteArray} {nL : Nat} {ret : Option FieldType} {R : Room} {cl sl : Nat} {Z : Zt} {pc : Nat} {L st : List Vv} {M : Mm} {N : Nn} {a b : Nat}  {h : Nat} {P : Int → Mm → Nn → Prop} (hd : decode cc pc = .ok (.invokevirtual 27, 3)) (hct : Nat.ble (ctL st) 8 = true) (hR : Nat.ble (h + 1) R.frames = true ∧ Nat.ble (8 + (4 + 11) + 40 * h) R.locals = true) (hcl : Nat.ble cl R.cells = true ∧ Nat.ble sl R.slots = true) (hc : Ct E yX0_radius cX0_radius 4 ((some .long)) (rmH h) [vr (15, a, b)] M N (ql P)) (k : ∀ r M1 N1, R64 r → P r M1 N1 → Go E RX0 cc nL ret R cl sl Z (pc + 3) L (vl r :: st) M1 N1) : Go E RX0 cc nL ret R cl sl Z (pc) L (vr (15, a, b) :: st) M N := go_callV (As := []) hd l0_27 rfl rfl rfl hct ⟨rfl, rfl⟩ ⟨Nat.le_of_ble_eq_true hR.1, Nat.le_of_ble_eq_true hR.2⟩ hc hcl (fun r M1 N1 h => by obtain ⟨z, rfl, h1, h⟩ := h; exact k z M1 N1 h1 h)
theorem kyX1_reckonInput : Cond.code yX1_reckonInput cX1_reckonInput 4 (none) ∈ BIG := bg3 85 (rfl) rfl
theorem kiyX1_reckonInput : Cond.initialized yX1_reckonInput.cls ∈ BIG := bg1 3 (by decide +kernel) rfl
theorem knyX1_reckonInput : Cond.instanceMethod yX1_reckonInput ∈ BIG := bg3 84 (by decide +kernel) rfl
theorem ksyX1_reckonInput : Cond.selects yX1_reckonInput.cls yX1_reckonInput yX1_reckonInput ∈ BIG := bgp (q := (yX1_reckonInput, 14)) (List.mem_of_getElem? (i := 22) (by decide +kernel)) rfl
theorem mw1_65 : Cond.methodLink RX1 65 yX1_reckonInput ∈ BIG := bg3 82 (by decide +kernel) rfl
theorem l1_65 : LkV RX1 65 1 yX1_reckonInput cX1_reckonInput 4 (none) 2 := ⟨mw1_65, knyX1_reckonInput, ksyX1_reckonInput, kiyX1_reckonInput, kyX1_reckonInput, ⟨_, rfl, rfl⟩, rfl, by decide +kernel, by decide +kernel, by decide +kernel⟩
/-- RoundedSums$Forms.reckonInput -/
theorem v1_65 {E : Ev} {cc : ByteArray} {nL : Nat} {ret : Option FieldType} {R : Room} {cl sl : Nat} {Z : Zt} {pc : Nat} {L st : List Vv} {M : Mm} {N : Nn} {a b : Nat} {x0 : Nm} {x1 : Int} {h : Nat} {P : Mm → Nn → Prop} (hd : decode cc pc = .ok (.invokevirtual 65, 3)) (hct : Nat.ble (ctL st) 8 = true) (hR : Nat.ble (h + 1) R.frames = true ∧ Nat.ble (8 + (4 + 11) + 40 * h) R.locals = true) (hcl : Nat.ble cl R.cells = true ∧ Nat.ble sl R.slots = true) (hc : Ct E yX1_reckonInput cX1_reckonInput 4 (none) (rmH h) [vr (7, a, b), vr x0, vi x1] M N (qv P)) (k : ∀ M1 N1, P M1 N1 → Go E RX1 cc nL ret R cl sl Z (pc + 3) L (st) M1 N1) : Go E RX1 cc nL ret R cl sl Z (pc) L (vi x1 :: vr x0 :: vr (7, a, b) :: st) M N := go_callV (As := [vr x0, vi x1]) hd l1_65 rfl rfl rfl hct ⟨rfl, rfl⟩ ⟨Nat.le_of_ble_eq_true hR.1, Nat.le_of_ble_eq_true hR.2⟩ hc hcl (fun r M1 N1 h => by obtain ⟨rfl, h⟩ := h; exact k M1 N1 h)
theorem kyX1_reckonSum : Cond.code yX1_reckonSum cX1_reckonSum 4 (none) ∈ BIG := bg3 101 (rfl) rfl
theorem kiyX1_reckonSum : Cond.initialized yX1_reckonSum.cls ∈ BIG := bg1 3 (by decide +kernel) rfl
theorem knyX1_reckonSum : Cond.instanceMethod yX1_reckonSum ∈ BIG := bg3 100 (by decide +kernel) rfl
theorem ksyX1_reckonSum : Cond.selects yX1_reckonSum.cls yX1_reckonSum yX1_reckonSum ∈ BIG := bgp (q := (yX1_reckonSum, 14)) (List.mem_of_getElem? (i := 24) (by decide +kernel)) rfl
theorem mw1_75 : Cond.methodLink RX1 75 yX1_reckonSum ∈ BIG := bg3 98 (by decide +kernel) rfl
theorem l1_75 : LkV RX1 75 1 yX1_reckonSum cX1_reckonSum 4 (none) 3 := ⟨mw1_75, knyX1_reckonSum, ksyX1_reckonSum, kiyX1_reckonSum, kyX1_reckonSum, ⟨_, rfl, rfl⟩, rfl, by decide +kernel, by decide +kernel, by decide +kernel⟩
/-- RoundedSums$Forms.reckonSum -/
theorem v1_75 {E : Ev} {cc : ByteArray} {nL : Nat} {ret : Option FieldType} {R : Room} {cl sl : Nat} {Z : Zt} {pc : Nat} {L st : List Vv} {M : Mm} {N : Nn} {a b : Nat} {x0 : Nm} {x1 : Int} {x2 : Int} {h : Nat} {P : Mm → Nn → Prop} (hd : decode cc pc = .ok (.invokevirtual 75, 3)) (hct : Nat.ble (ctL st) 8 = true) (hR : Nat.ble (h + 1) R.frames = true ∧ Nat.ble (8 + (4 + 11) + 40 * h) R.locals = true) (hcl : Nat.ble cl R.cells = true ∧ Nat.ble sl R.slots = true) (hc : Ct E yX1_reckonSum cX1_reckonSum 4 (none) (rmH h) [vr (7, a, b), vr x0, vi x1, vi x2] M N (qv P)) (k : ∀ M1 N1, P M1 N1 → Go E RX1 cc nL ret R cl sl Z (pc + 3) L (st) M1 N1) : Go E RX1 cc nL ret R cl sl Z (pc) L (vi x2 :: vi x1 :: vr x0 :: vr (7, a, b) :: st) M N := go_callV (As := [vr x0, vi x1, vi x2]) hd l1_75 rfl rfl rfl hct ⟨rfl, rfl⟩ ⟨Nat.le_of_ble_eq_true hR.1, Nat.le_of_ble_eq_true hR.2⟩ hc hcl (fun r M1 N1 h => by obtain ⟨rfl, h⟩ := h; exact k M1 N1 h)
theorem kyX1_reckonProduct : Cond.code yX1_reckonProduct cX1_reckonProduct 7 (none) ∈ BIG := bg3 121 (rfl) rfl
theorem kiyX1_reckonProduct : Cond.initialized yX1_reckonProduct.cls ∈ BIG := bg1 3 (by decide +kernel) rfl
theorem knyX1_reckonProduct : Cond.instanceMethod yX1_reckonProduct ∈ BIG := bg3 120 (by decide +kernel) rfl
theorem ksyX1_reckonProduct : Cond.selects yX1_reckonProduct.cls yX1_reckonProduct yX1_reckonProduct ∈ BIG := bgp (q := (yX1_reckonProduct, 14)) (List.mem_of_getElem? (i := 27) (by decide +kernel)) rfl
theorem mw1_79 : Cond.methodLink RX1 79 yX1_reckonProduct ∈ BIG := bg3 118 (by decide +kernel) rfl
theorem l1_79 : LkV RX1 79 1 yX1_reckonProduct cX1_reckonProduct 7 (none) 2 := ⟨mw1_79, knyX1_reckonProduct, ksyX1_reckonProduct, kiyX1_reckonProduct, kyX1_reckonProduct, ⟨_, rfl, rfl⟩, rfl, by decide +kernel, by decide +kernel, by decide +kernel⟩
/-- RoundedSums$Forms.reckonProduct -/
theorem v1_79 {E : Ev} {cc : ByteArray} {nL : Nat} {ret : Option FieldType} {R : Room} {cl sl : Nat} {Z : Zt} {pc : Nat} {L st : List Vv} {M : Mm} {N : Nn} {a b : Nat} {x0 : Nm} {x1 : Int} {h : Nat} {P : Mm → Nn → Prop} (hd : decode cc pc = .ok (.invokevirtual 79, 3)) (hct : Nat.ble (ctL st) 8 = true) (hR : Nat.ble (h + 1) R.frames = true ∧ Nat.ble (8 + (7 + 11) + 40 * h) R.locals = true) (hcl : Nat.ble cl R.cells = true ∧ Nat.ble sl R.slots = true) (hc : Ct E yX1_reckonProduct cX1_reckonProduct 7 (none) (rmH h) [vr (7, a, b), vr x0, vi x1] M N (qv P)) (k : ∀ M1 N1, P M1 N1 → Go E RX1 cc nL ret R cl sl Z (pc + 3) L (st) M1 N1) : Go E RX1 cc nL ret R cl sl Z (pc) L (vi x1 :: vr x0 :: vr (7, a, b) :: st) M N := go_callV (As := [vr x0, vi x1]) hd l1_79 rfl rfl rfl hct ⟨rfl, rfl⟩ ⟨Nat.le_of_ble_eq_true hR.1, Nat.le_of_ble_eq_true hR.2⟩ hc hcl (fun r M1 N1 h => by obtain ⟨rfl, h⟩ := h; exact k M1 N1 h)
theorem kyX1_reckonPick : Cond.code yX1_reckonPick cX1_reckonPick 8 (none) ∈ BIG := bg3 138 (rfl) rfl
theorem kiyX1_reckonPick : Cond.initialized yX1_reckonPick.cls ∈ BIG := bg1 3 (by decide +kernel) rfl
theorem knyX1_reckonPick : Cond.instanceMethod yX1_reckonPick ∈ BIG := bg3 137 (by decide +kernel) rfl
theorem ksyX1_reckonPick : Cond.selects yX1_reckonPick.cls yX1_reckonPick yX1_reckonPick ∈ BIG := bgp (q := (yX1_reckonPick, 14)) (List.mem_of_getElem? (i := 30) (by decide +kernel)) rfl
theorem mw1_82 : Cond.methodLink RX1 82 yX1_reckonPick ∈ BIG := bg3 135 (by decide +kernel) rfl
theorem l1_82 : LkV RX1 82 1 yX1_reckonPick cX1_reckonPick 8 (none) 2 := ⟨mw1_82, knyX1_reckonPick, ksyX1_reckonPick, kiyX1_reckonPick, kyX1_reckonPick, ⟨_, rfl, rfl⟩, rfl, by decide +kernel, by decide +kernel, by decide +kernel⟩
/-- RoundedSums$Forms.reckonPick -/
theorem v1_82 {E : Ev} {cc : ByteArray} {nL : Nat} {ret : Option FieldType} {R : Room} {cl sl : Nat} {Z : Zt} {pc : Nat} {L st : List Vv} {M : Mm} {N : Nn} {a b : Nat} {x0 : Nm} {x1 : Int} {h : Nat} {P : Mm → Nn → Prop} (hd : decode cc pc = .ok (.invokevirtual 82, 3)) (hct : Nat.ble (ctL st) 8 = true) (hR : Nat.ble (h + 1) R.frames = true ∧ Nat.ble (8 + (8 + 11) + 40 * h) R.locals = true) (hcl : Nat.ble cl R.cells = true ∧ Nat.ble sl R.slots = true) (hc : Ct E yX1_reckonPick cX1_reckonPick 8 (none) (rmH h) [vr (7, a, b), vr x0, vi x1] M N (qv P)) (k : ∀ M1 N1, P M1 N1 → Go E RX1 cc nL ret R cl sl Z (pc + 3) L (st) M1 N1) : Go E RX1 cc nL ret R cl sl Z (pc) L (vi x1 :: vr x0 :: vr (7, a, b) :: st) M N := go_callV (As := [vr x0, vi x1]) hd l1_82 rfl rfl rfl hct ⟨rfl, rfl⟩ ⟨Nat.le_of_ble_eq_true hR.1, Nat.le_of_ble_eq_true hR.2⟩ hc hcl (fun r M1 N1 h => by obtain ⟨rfl, h⟩ := h; exact k M1 N1 h)
theorem kyX3_reckonedFine : Cond.code yX3_reckonedFine cX3_reckonedFine 4 ((some .int)) ∈ BIG := bg3 24 (rfl) rfl
theorem kiyX3_reckonedFine : Cond.initialized yX3_reckonedFine.cls ∈ BIG := bg1 6 (by decide +kernel) rfl
theorem knyX3_reckonedFine : Cond.instanceMethod yX3_reckonedFine ∈ BIG := bg3 22 (by decide +kernel) rfl
theorem ksyX3_reckonedFine : Cond.selects yX3_reckonedFine.cls yX3_reckonedFine yX3_reckonedFine ∈ BIG := bg3 23 (by decide +kernel) rfl
theorem mw1_88 : Cond.methodLink RX1 88 yX3_reckonedFine ∈ BIG := bg3 171 (by decide +kernel) rfl
theorem l1_88 : LkV RX1 88 3 yX3_reckonedFine cX3_reckonedFine 4 ((some .int)) 1 := ⟨mw1_88, knyX3_reckonedFine, ksyX3_reckonedFine, kiyX3_reckonedFine, kyX3_reckonedFine, ⟨_, rfl, rfl⟩, rfl, by decide +kernel, by decide +kernel, by decide +kernel⟩
/-- RoundedSums$Program.reckonedFine -/
theorem v1_88 {E : Ev} {cc : ByteArray} {nL : Nat} {ret : Option FieldType} {R : Room} {cl sl : Nat} {Z : Zt} {pc : Nat} {L st : List Vv} {M : Mm} {N : Nn} {a b : Nat} {x0 : Int} {h : Nat} {P : Int → Mm → Nn → Prop} (hd : decode cc pc = .ok (.invokevirtual 88, 3)) (hct : Nat.ble (ctL st) 8 = true) (hR : Nat.ble (h + 1) R.frames = true ∧ Nat.ble (8 + (4 + 11) + 40 * h) R.locals = true) (hcl : Nat.ble cl R.cells = true ∧ Nat.ble sl R.slots = true) (hc : Ct E yX3_reckonedFine cX3_reckonedFine 4 ((some .int)) (rmH h) [vr (18, a, b), vi x0] M N (qi P)) (k : ∀ r M1 N1, R32 r → P r M1 N1 → Go E RX1 cc nL ret R cl sl Z (pc + 3) L (vi r :: st) M1 N1) : Go E RX1 cc nL ret R cl sl Z (pc) L (vi x0 :: vr (18, a, b) :: st) M N := go_callV (As := [vi x0]) hd l1_88 rfl rfl rfl hct ⟨rfl, rfl⟩ ⟨Nat.le_of_ble_eq_true hR.1, Nat.le_of_ble_eq_true hR.2⟩ hc hcl (fun r M1 N1 h => by obtain ⟨z, rfl, h1, h⟩ := h; exact k z M1 N1 h1 h)
theorem kyX1_bring : Cond.code yX1_bring cX1_bring 6 (none) ∈ BIG := bg3 134 (rfl) rfl
theorem kiyX1_bring : Cond.initialized yX1_bring.cls ∈ BIG := bg1 3 (by decide +kernel) rfl
theorem knyX1_bring : Cond.instanceMethod yX1_bring ∈ BIG := bg3 133 (by decide +kernel) rfl
theorem ksyX1_bring : Cond.selects yX1_bring.cls yX1_bring yX1_bring ∈ BIG := bgp (q := (yX1_bring, 14)) (List.mem_of_getElem? (i := 29) (by decide +kernel)) rfl
theorem mw1_92 : Cond.methodLink RX1 92 yX1_bring ∈ BIG := bg3 131 (by decide +kernel) rfl
theorem l1_92 : LkV RX1 92 1 yX1_bring cX1_bring 6 (none) 4 := ⟨mw1_92, knyX1_bring, ksyX1_bring, kiyX1_bring, kyX1_bring, ⟨_, rfl, rfl⟩, rfl, by decide +kernel, by decide +kernel, by decide +kernel⟩
/-- RoundedSums$Forms.bring -/
theorem v1_92 {E : Ev} {cc : ByteArray} {nL : Nat} {ret : Option FieldType} {R : Room} {cl sl : Nat} {Z : Zt} {pc : Nat} {L st : List Vv} {M : Mm} {N : Nn} {a b : Nat} {x0 : Nm} {x1 : Int} {x2 : Int} {x3 : Int} {h : Nat} {P : Mm → Nn → Prop} (hd : decode cc pc = .ok (.invokevirtual 92, 3)) (hct : Nat.ble (ctL st) 8 = true) (hR : Nat.ble (h + 1) R.frames = true ∧ Nat.ble (8 + (6 + 11) + 40 * h) R.locals = true) (hcl : Nat.ble cl R.cells = true ∧ Nat.ble sl R.slots = true) (hc : Ct E yX1_bring cX1_bring 6 (none) (rmH h) [vr (7, a, b), vr x0, vl x1, vi x2, vi x3] M N (qv P)) (k : ∀ M1 N1, P M1 N1 → Go E RX1 cc nL ret R cl sl Z (pc + 3) L (st) M1 N1) : Go E RX1 cc nL ret R cl sl Z (pc) L (vi x3 :: vi x2 :: vl x1 :: vr x0 :: vr (7, a, b) :: st) M N := go_callV (As := [vr x0, vl x1, vi x2, vi x3]) hd l1_92 rfl rfl rfl hct ⟨rfl, rfl⟩ ⟨Nat.le_of_ble_eq_true hR.1, Nat.le_of_ble_eq_true hR.2⟩ hc hcl (fun r M1 N1 h => by obtain ⟨rfl, h⟩ := h; exact k M1 N1 h)
theorem mw1_100 : Cond.methodLink RX1 100 yX0_radius ∈ BIG := bg3 127 (by decide +kernel) rfl
theorem l1_100 : LkV RX1 100 0 yX0_radius cX0_radius 4 ((some .long)) 0 := ⟨mw1_100, knyX0_radius, ksyX0_radius, kiyX0_radius, kyX0_radius, ⟨_, rfl, rfl⟩, rfl, by decide +kernel, by decide +kernel, by decide +kernel⟩
/-- RoundedSums$Form.radius -/
theorem v1_100 {E : Ev} {cc : ByteArray} {nL : Nat} {ret : Option FieldType} {R : Room} {cl sl : Nat} {Z : Zt} {pc : Nat} {L st : List Vv} {M : Mm} {N : Nn} {a b : Nat}  {h : Nat} {P : Int → Mm → Nn → Prop} (hd : decode cc pc = .ok (.invokevirtual 100, 3)) (hct : Nat.ble (ctL st) 8 = true) (hR : Nat.ble (h + 1) R.frames = true ∧ Nat.ble (8 + (4 + 11) + 40 * h) R.locals = true) (hcl : Nat.ble cl R.cells = true ∧ Nat.ble sl R.slots = true) (hc : Ct E yX0_radius cX0_radius 4 ((some .long)) (rmH h) [vr (15, a, b)] M N (ql P)) (k : ∀ r M1 N1, R64 r → P r M1 N1 → Go E RX1 cc nL ret R cl sl Z (pc + 3) L (vl r :: st) M1 N1) : Go E RX1 cc nL ret R cl sl Z (pc) L (vr (15, a, b) :: st) M N := go_callV (As := []) hd l1_100 rfl rfl rfl hct ⟨rfl, rfl⟩ ⟨Nat.le_of_ble_eq_true hR.1, Nat.le_of_ble_eq_true hR.2⟩ hc hcl (fun r M1 N1 h => by obtain ⟨z, rfl, h1, h⟩ := h; exact k z M1 N1 h1 h)
theorem kyJ9_abs_067f4 : Cond.code yJ9_abs_067f4 cJ9_abs_067f4 2 ((some .long)) ∈ BIG := bg4 63 (rfl) rfl
theorem kiyJ9_abs_067f4 : Cond.initialized yJ9_abs_067f4.cls ∈ BIG := bg1 14 (by decide +kernel) rfl
theorem ktyJ9_abs_067f4 : Cond.static yJ9_abs_067f4 ∈ BIG := bg4 62 (by decide +kernel) rfl
theorem mw1_108 : Cond.methodLink RX1 108 yJ9_abs_067f4 ∈ BIG := bg4 61 (by decide +kernel) rfl
theorem l1_108 : LkS RX1 108 yJ9_abs_067f4 cJ9_abs_067f4 2 ((some .long)) 1 := ⟨mw1_108, ktyJ9_abs_067f4, kiyJ9_abs_067f4, kyJ9_abs_067f4, by decide +kernel, by decide +kernel, by decide +kernel⟩
/-- java/lang/Math.abs -/
theorem v1_108 {E : Ev} {cc : ByteArray} {nL : Nat} {ret : Option FieldType} {R : Room} {cl sl : Nat} {Z : Zt} {pc : Nat} {L st : List Vv} {M : Mm} {N : Nn} {x0 : Int} {h : Nat} {P : Int → Mm → Nn → Prop} (hd : decode cc pc = .ok (.invokestatic 108, 3)) (hct : Nat.ble (ctL st) 8 = true) (hR : Nat.ble (h + 1) R.frames = true ∧ Nat.ble (8 + (2 + 11) + 40 * h) R.locals = true) (hcl : Nat.ble cl R.cells = true ∧ Nat.ble sl R.slots = true) (hc : Ct E yJ9_abs_067f4 cJ9_abs_067f4 2 ((some .long)) (rmH h) [vl x0] M N (ql P)) (k : ∀ r M1 N1, R64 r → P r M1 N1 → Go E RX1 cc nL ret R cl sl Z (pc + 3) L (vl r :: st) M1 N1) : Go E RX1 cc nL ret R cl sl Z (pc) L (vl x0 :: st) M N := go_callS (As := [vl x0]) hd l1_108 rfl rfl hct ⟨rfl, rfl⟩ ⟨Nat.le_of_ble_eq_true hR.1, Nat.le_of_ble_eq_true hR.2⟩ hc hcl (fun r M1 N1 h => by obtain ⟨z, rfl, h1, h⟩ := h; exact k z M1 N1 h1 h)
theorem mw1_114 : Cond.methodLink RX1 114 yX3_isStep ∈ BIG := bg4 72 (by decide +kernel) rfl
theorem l1_114 : LkV RX1 114 3 yX3_isStep cX3_isStep 2 ((some .boolean)) 1 := ⟨mw1_114, knyX3_isStep, ksyX3_isStep, kiyX3_isStep, kyX3_isStep, ⟨_, rfl, rfl⟩, rfl, by decide +kernel, by decide +kernel, by decide +kernel⟩
/-- RoundedSums$Program.isStep -/
theorem v1_114 {E : Ev} {cc : ByteArray} {nL : Nat} {ret : Option FieldType} {R : Room} {cl sl : Nat} {Z : Zt} {pc : Nat} {L st : List Vv} {M : Mm} {N : Nn} {a b : Nat} {x0 : Int} {h : Nat} {P : Int → Mm → Nn → Prop} (hd : decode cc pc = .ok (.invokevirtual 114, 3)) (hct : Nat.ble (ctL st) 8 = true) (hR : Nat.ble (h + 1) R.frames = true ∧ Nat.ble (8 + (2 + 11) + 40 * h) R.locals = true) (hcl : Nat.ble cl R.cells = true ∧ Nat.ble sl R.slots = true) (hc : Ct E yX3_isStep cX3_isStep 2 ((some .boolean)) (rmH h) [vr (18, a, b), vi x0] M N (qi P)) (k : ∀ r M1 N1, R32 r → P r M1 N1 → Go E RX1 cc nL ret R cl sl Z (pc + 3) L (vi r :: st) M1 N1) : Go E RX1 cc nL ret R cl sl Z (pc) L (vi x0 :: vr (18, a, b) :: st) M N := go_callV (As := [vi x0]) hd l1_114 rfl rfl rfl hct ⟨rfl, rfl⟩ ⟨Nat.le_of_ble_eq_true hR.1, Nat.le_of_ble_eq_true hR.2⟩ hc hcl (fun r M1 N1 h => by obtain ⟨z, rfl, h1, h⟩ := h; exact k z M1 N1 h1 h)
theorem mw1_118 : Cond.methodLink RX1 118 yX1_partOf ∈ BIG := bg4 73 (by decide +kernel) rfl
theorem l1_118 : LkV RX1 118 1 yX1_partOf cX1_partOf 6 ((some .long)) 2 := ⟨mw1_118, knyX1_partOf, ksyX1_partOf, kiyX1_partOf, kyX1_partOf, ⟨_, rfl, rfl⟩, rfl, by decide +kernel, by decide +kernel, by decide +kernel⟩
/-- RoundedSums$Forms.partOf -/
theorem v1_118 {E : Ev} {cc : ByteArray} {nL : Nat} {ret : Option FieldType} {R : Room} {cl sl : Nat} {Z : Zt} {pc : Nat} {L st : List Vv} {M : Mm} {N : Nn} {a b : Nat} {x0 : Int} {x1 : Int} {h : Nat} {P : Int → Mm → Nn → Prop} (hd : decode cc pc = .ok (.invokevirtual 118, 3)) (hct : Nat.ble (ctL st) 8 = true) (hR : Nat.ble (h + 1) R.frames = true ∧ Nat.ble (8 + (6 + 11) + 40 * h) R.locals = true) (hcl : Nat.ble cl R.cells = true ∧ Nat.ble sl R.slots = true) (hc : Ct E yX1_partOf cX1_partOf 6 ((some .long)) (rmH h) [vr (7, a, b), vi x0, vi x1] M N (ql P)) (k : ∀ r M1 N1, R64 r → P r M1 N1 → Go E RX1 cc nL ret R cl sl Z (pc + 3) L (vl r :: st) M1 N1) : Go E RX1 cc nL ret R cl sl Z (pc) L (vi x1 :: vi x0 :: vr (7, a, b) :: st) M N := go_callV (As := [vi x0, vi x1]) hd l1_118 rfl rfl rfl hct ⟨rfl, rfl⟩ ⟨Nat.le_of_ble_eq_true hR.1, Nat.le_of_ble_eq_true hR.2⟩ hc hcl (fun r M1 N1 h => by obtain ⟨z, rfl, h1, h⟩ := h; exact k z M1 N1 h1 h)
theorem kyX1_newNoise : Cond.code yX1_newNoise cX1_newNoise 3 ((some .int)) ∈ BIG := bg3 93 (rfl) rfl
theorem kiyX1_newNoise : Cond.initialized yX1_newNoise.cls ∈ BIG := bg1 3 (by decide +kernel) rfl
theorem knyX1_newNoise : Cond.instanceMethod yX1_newNoise ∈ BIG := bg3 92 (by decide +kernel) rfl
theorem ksyX1_newNoise : Cond.selects yX1_newNoise.cls yX1_newNoise yX1_newNoise ∈ BIG := bgp (q := (yX1_newNoise, 14)) (List.mem_of_getElem? (i := 23) (by decide +kernel)) rfl
theorem mw1_122 : Cond.methodLink RX1 122 yX1_newNoise ∈ BIG := bg3 90 (by decide +kernel) rfl
theorem l1_122 : LkV RX1 122 1 yX1_newNoise cX1_newNoise 3 ((some .int)) 2 := ⟨mw1_122, knyX1_newNoise, ksyX1_newNoise, kiyX1_newNoise, kyX1_newNoise, ⟨_, rfl, rfl⟩, rfl, by decide +kernel, by decide +kernel, by decide +kernel⟩
/-- RoundedSums$Forms.newNoise -/
theorem v1_122 {E : Ev} {cc : ByteArray} {nL : Nat} {ret : Option FieldType} {R : Room} {cl sl : Nat} {Z : Zt} {pc : Nat} {L st : List Vv} {M : Mm} {N : Nn} {a b : Nat} {x0 : Int} {x1 : Int} {h : Nat} {P : Int → Mm → Nn → Prop} (hd : decode cc pc = .ok (.invokevirtual 122, 3)) (hct : Nat.ble (ctL st) 8 = true) (hR : Nat.ble (h + 1) R.frames = true ∧ Nat.ble (8 + (3 + 11) + 40 * h) R.locals = true) (hcl : Nat.ble cl R.cells = true ∧ Nat.ble sl R.slots = true) (hc : Ct E yX1_newNoise cX1_newNoise 3 ((some .int)) (rmH h) [vr (7, a, b), vi x0, vi x1] M N (qi P)) (k : ∀ r M1 N1, R32 r → P r M1 N1 → Go E RX1 cc nL ret R cl sl Z (pc + 3) L (vi r :: st) M1 N1) : Go E RX1 cc nL ret R cl sl Z (pc) L (vi x1 :: vi x0 :: vr (7, a, b) :: st) M N := go_callV (As := [vi x0, vi x1]) hd l1_122 rfl rfl rfl hct ⟨rfl, rfl⟩ ⟨Nat.le_of_ble_eq_true hR.1, Nat.le_of_ble_eq_true hR.2⟩ hc hcl (fun r M1 N1 h => by obtain ⟨z, rfl, h1, h⟩ := h; exact k z M1 N1 h1 h)
theorem kyX0_addNoise : Cond.code yX0_addNoise cX0_addNoise 4 (none) ∈ BIG := bg3 97 (rfl) rfl
theorem kiyX0_addNoise : Cond.initialized yX0_addNoise.cls ∈ BIG := bg1 4 (by decide +kernel) rfl
theorem knyX0_addNoise : Cond.instanceMethod yX0_addNoise ∈ BIG := bg3 95 (by decide +kernel) rfl
theorem ksyX0_addNoise : Cond.selects yX0_addNoise.cls yX0_addNoise yX0_addNoise ∈ BIG := bg3 96 (by decide +kernel) rfl
theorem mw1_126 : Cond.methodLink RX1 126 yX0_addNoise ∈ BIG := bg3 94 (by decide +kernel) rfl
theorem l1_126 : LkV RX1 126 0 yX0_addNoise cX0_addNoise 4 (none) 2 := ⟨mw1_126, knyX0_addNoise, ksyX0_addNoise, kiyX0_addNoise, kyX0_addNoise, ⟨_, rfl, rfl⟩, rfl, by decide +kernel, by decide +kernel, by decide +kernel⟩
/-- RoundedSums$Form.addNoise -/
theorem v1_126 {E : Ev} {cc : ByteArray} {nL : Nat} {ret : Option FieldType} {R : Room} {cl sl : Nat} {Z : Zt} {pc : Nat} {L st : List Vv} {M : Mm} {N : Nn} {a b : Nat} {x0 : Int} {x1 : Int} {h : Nat} {P : Mm → Nn → Prop} (hd : decode cc pc = .ok (.invokevirtual 126, 3)) (hct : Nat.ble (ctL st) 8 = true) (hR : Nat.ble (h + 1) R.frames = true ∧ Nat.ble (8 + (4 + 11) + 40 * h) R.locals = true) (hcl : Nat.ble cl R.cells = true ∧ Nat.ble sl R.slots = true) (hc : Ct E yX0_addNoise cX0_addNoise 4 (none) (rmH h) [vr (15, a, b), vi x0, vl x1] M N (qv P)) (k : ∀ M1 N1, P M1 N1 → Go E RX1 cc nL ret R cl sl Z (pc + 3) L (st) M1 N1) : Go E RX1 cc nL ret R cl sl Z (pc) L (vl x1 :: vi x0 :: vr (15, a, b) :: st) M N := go_callV (As := [vi x0, vl x1]) hd l1_126 rfl rfl rfl hct ⟨rfl, rfl⟩ ⟨Nat.le_of_ble_eq_true hR.1, Nat.le_of_ble_eq_true hR.2⟩ hc hcl (fun r M1 N1 h => by obtain ⟨rfl, h⟩ := h; exact k M1 N1 h)
theorem kyX0_become : Cond.code yX0_become cX0_become 4 (none) ∈ BIG := bg3 89 (rfl) rfl
theorem kiyX0_become : Cond.initialized yX0_become.cls ∈ BIG := bg1 4 (by decide +kernel) rfl
theorem knyX0_become : Cond.instanceMethod yX0_become ∈ BIG := bg3 87 (by decide +kernel) rfl
theorem ksyX0_become : Cond.selects yX0_become.cls yX0_become yX0_become ∈ BIG := bg3 88 (by decide +kernel) rfl
theorem mw1_136 : Cond.methodLink RX1 136 yX0_become ∈ BIG := bg3 86 (by decide +kernel) rfl
theorem l1_136 : LkV RX1 136 0 yX0_become cX0_become 4 (none) 1 := ⟨mw1_136, knyX0_become, ksyX0_become, kiyX0_become, kyX0_become, ⟨_, rfl, rfl⟩, rfl, by decide +kernel, by decide +kernel, by decide +kernel⟩
/-- RoundedSums$Form.become -/
theorem v1_136 {E : Ev} {cc : ByteArray} {nL : Nat} {ret : Option FieldType} {R : Room} {cl sl : Nat} {Z : Zt} {pc : Nat} {L st : List Vv} {M : Mm} {N : Nn} {a b : Nat} {x0 : Int} {h : Nat} {P : Mm → Nn → Prop} (hd : decode cc pc = .ok (.invokevirtual 136, 3)) (hct : Nat.ble (ctL st) 8 = true) (hR : Nat.ble (h + 1) R.frames = true ∧ Nat.ble (8 + (4 + 11) + 40 * h) R.locals = true) (hcl : Nat.ble cl R.cells = true ∧ Nat.ble sl R.slots = true) (hc : Ct E yX0_become cX0_become 4 (none) (rmH h) [vr (15, a, b), vl x0] M N (qv P)) (k : ∀ M1 N1, P M1 N1 → Go E RX1 cc nL ret R cl sl Z (pc + 3) L (st) M1 N1) : Go E RX1 cc nL ret R cl sl Z (pc) L (vl x0 :: vr (15, a, b) :: st) M N := go_callV (As := [vl x0]) hd l1_136 rfl rfl rfl hct ⟨rfl, rfl⟩ ⟨Nat.le_of_ble_eq_true hR.1, Nat.le_of_ble_eq_true hR.2⟩ hc hcl (fun r M1 N1 h => by obtain ⟨rfl, h⟩ := h; exact k M1 N1 h)
theorem kyX1_valueIn : Cond.code yX1_valueIn cX1_valueIn 6 ((some (.object "RoundedSums$Form"))) ∈ BIG := bg3 105 (rfl) rfl
theorem kiyX1_valueIn : Cond.initialized yX1_valueIn.cls ∈ BIG := bg1 3 (by decide +kernel) rfl
theorem knyX1_valueIn : Cond.instanceMethod yX1_valueIn ∈ BIG := bg3 104 (by decide +kernel) rfl
theorem ksyX1_valueIn : Cond.selects yX1_valueIn.cls yX1_valueIn yX1_valueIn ∈ BIG := bgp (q := (yX1_valueIn, 14)) (List.mem_of_getElem? (i := 25) (by decide +kernel)) rfl
theorem mw1_146 : Cond.methodLink RX1 146 yX1_valueIn ∈ BIG := bg3 102 (by decide +kernel) rfl
theorem l1_146 : LkV RX1 146 1 yX1_valueIn cX1_valueIn 6 ((some (.object "RoundedSums$Form"))) 3 := ⟨mw1_146, knyX1_valueIn, ksyX1_valueIn, kiyX1_valueIn, kyX1_valueIn, ⟨_, rfl, rfl⟩, rfl, by decide +kernel, by decide +kernel, by decide +kernel⟩
/-- RoundedSums$Forms.valueIn -/
theorem v1_146 {E : Ev} {cc : ByteArray} {nL : Nat} {ret : Option FieldType} {R : Room} {cl sl : Nat} {Z : Zt} {pc : Nat} {L st : List Vv} {M : Mm} {N : Nn} {a b : Nat} {x0 : Nm} {x1 : Int} {x2 : Int} {h : Nat} {P : Nm → Mm → Nn → Prop} (hd : decode cc pc = .ok (.invokevirtual 146, 3)) (hct : Nat.ble (ctL st) 8 = true) (hR : Nat.ble (h + 1) R.frames = true ∧ Nat.ble (8 + (6 + 11) + 40 * h) R.locals = true) (hcl : Nat.ble cl R.cells = true ∧ Nat.ble sl R.slots = true) (hc : Ct E yX1_valueIn cX1_valueIn 6 ((some (.object "RoundedSums$Form"))) (rmH h) [vr (7, a, b), vr x0, vi x1, vi x2] M N (qr P)) (k : ∀ r M1 N1, P r M1 N1 → Go E RX1 cc nL ret R cl sl Z (pc + 3) L (vr r :: st) M1 N1) : Go E RX1 cc nL ret R cl sl Z (pc) L (vi x2 :: vi x1 :: vr x0 :: vr (7, a, b) :: st) M N := go_callV (As := [vr x0, vi x1, vi x2]) hd l1_146 rfl rfl rfl hct ⟨rfl, rfl⟩ ⟨Nat.le_of_ble_eq_true hR.1, Nat.le_of_ble_eq_true hR.2⟩ hc hcl (fun r M1 N1 h => by obtain ⟨z, rfl, h⟩ := h; exact k z M1 N1 h)
theorem kyX0_add : Cond.code yX0_add cX0_add 4 (none) ∈ BIG := bg3 109 (rfl) rfl
theorem kiyX0_add : Cond.initialized yX0_add.cls ∈ BIG := bg1 4 (by decide +kernel) rfl
theorem knyX0_add : Cond.instanceMethod yX0_add ∈ BIG := bg3 107 (by decide +kernel) rfl
theorem ksyX0_add : Cond.selects yX0_add.cls yX0_add yX0_add ∈ BIG := bg3 108 (by decide +kernel) rfl
theorem mw1_150 : Cond.methodLink RX1 150 yX0_add ∈ BIG := bg3 106 (by decide +kernel) rfl
theorem l1_150 : LkV RX1 150 0 yX0_add cX0_add 4 (none) 2 := ⟨mw1_150, knyX0_add, ksyX0_add, kiyX0_add, kyX0_add, ⟨_, rfl, rfl⟩, rfl, by decide +kernel, by decide +kernel, by decide +kernel⟩
/-- RoundedSums$Form.add -/
theorem v1_150 {E : Ev} {cc : ByteArray} {nL : Nat} {ret : Option FieldType} {R : Room} {cl sl : Nat} {Z : Zt} {pc : Nat} {L st : List Vv} {M : Mm} {N : Nn} {a b : Nat} {x0 : Nm} {x1 : Int} {h : Nat} {P : Mm → Nn → Prop} (hd : decode cc pc = .ok (.invokevirtual 150, 3)) (hct : Nat.ble (ctL st) 8 = true) (hR : Nat.ble (h + 1) R.frames = true ∧ Nat.ble (8 + (4 + 11) + 40 * h) R.locals = true) (hcl : Nat.ble cl R.cells = true ∧ Nat.ble sl R.slots = true) (hc : Ct E yX0_add cX0_add 4 (none) (rmH h) [vr (15, a, b), vr x0, vl x1] M N (qv P)) (k : ∀ M1 N1, P M1 N1 → Go E RX1 cc nL ret R cl sl Z (pc + 3) L (st) M1 N1) : Go E RX1 cc nL ret R cl sl Z (pc) L (vl x1 :: vr x0 :: vr (15, a, b) :: st) M N := go_callV (As := [vr x0, vl x1]) hd l1_150 rfl rfl rfl hct ⟨rfl, rfl⟩ ⟨Nat.le_of_ble_eq_true hR.1, Nat.le_of_ble_eq_true hR.2⟩ hc hcl (fun r M1 N1 h => by obtain ⟨rfl, h⟩ := h; exact k M1 N1 h)
theorem kyX1_driftIn : Cond.code yX1_driftIn cX1_driftIn 5 ((some (.object "RoundedSums$Form"))) ∈ BIG := bg3 117 (rfl) rfl
theorem kiyX1_driftIn : Cond.initialized yX1_driftIn.cls ∈ BIG := bg1 3 (by decide +kernel) rfl
theorem knyX1_driftIn : Cond.instanceMethod yX1_driftIn ∈ BIG := bg3 116 (by decide +kernel) rfl
theorem ksyX1_driftIn : Cond.selects yX1_driftIn.cls yX1_driftIn yX1_driftIn ∈ BIG := bgp (q := (yX1_driftIn, 14)) (List.mem_of_getElem? (i := 26) (by decide +kernel)) rfl
theorem mw1_154 : Cond.methodLink RX1 154 yX1_driftIn ∈ BIG := bg3 114 (by decide +kernel) rfl
theorem l1_154 : LkV RX1 154 1 yX1_driftIn cX1_driftIn 5 ((some (.object "RoundedSums$Form"))) 3 := ⟨mw1_154, knyX1_driftIn, ksyX1_driftIn, kiyX1_driftIn, kyX1_driftIn, ⟨_, rfl, rfl⟩, rfl, by decide +kernel, by decide +kernel, by decide +kernel⟩
/-- RoundedSums$Forms.driftIn -/
theorem v1_154 {E : Ev} {cc : ByteArray} {nL : Nat} {ret : Option FieldType} {R : Room} {cl sl : Nat} {Z : Zt} {pc : Nat} {L st : List Vv} {M : Mm} {N : Nn} {a b : Nat} {x0 : Nm} {x1 : Int} {x2 : Int} {h : Nat} {P : Nm → Mm → Nn → Prop} (hd : decode cc pc = .ok (.invokevirtual 154, 3)) (hct : Nat.ble (ctL st) 8 = true) (hR : Nat.ble (h + 1) R.frames = true ∧ Nat.ble (8 + (5 + 11) + 40 * h) R.locals = true) (hcl : Nat.ble cl R.cells = true ∧ Nat.ble sl R.slots = true) (hc : Ct E yX1_driftIn cX1_driftIn 5 ((some (.object "RoundedSums$Form"))) (rmH h) [vr (7, a, b), vr x0, vi x1, vi x2] M N (qr P)) (k : ∀ r M1 N1, P r M1 N1 → Go E RX1 cc nL ret R cl sl Z (pc + 3) L (vr r :: st) M1 N1) : Go E RX1 cc nL ret R cl sl Z (pc) L (vi x2 :: vi x1 :: vr x0 :: vr (7, a, b) :: st) M N := go_callV (As := [vr x0, vi x1, vi x2]) hd l1_154 rfl rfl rfl hct ⟨rfl, rfl⟩ ⟨Nat.le_of_ble_eq_true hR.1, Nat.le_of_ble_eq_true hR.2⟩ hc hcl (fun r M1 N1 h => by obtain ⟨z, rfl, h⟩ := h; exact k z M1 N1 h)
theorem kyX1_addProduct : Cond.code yX1_addProduct cX1_addProduct 5 (none) ∈ BIG := bg3 125 (rfl) rfl
theorem kiyX1_addProduct : Cond.initialized yX1_addProduct.cls ∈ BIG := bg1 3 (by decide +kernel) rfl
theorem knyX1_addProduct : Cond.instanceMethod yX1_addProduct ∈ BIG := bg3 124 (by decide +kernel) rfl
theorem ksyX1_addProduct : Cond.selects yX1_addProduct.cls yX1_addProduct yX1_addProduct ∈ BIG := bgp (q := (yX1_addProduct, 14)) (List.mem_of_getElem? (i := 28) (by decide +kernel)) rfl
theorem mw1_157 : Cond.methodLink RX1 157 yX1_addProduct ∈ BIG := bg3 122 (by decide +kernel) rfl
theorem l1_157 : LkV RX1 157 1 yX1_addProduct cX1_addProduct 5 (none) 4 := ⟨mw1_157, knyX1_addProduct, ksyX1_addProduct, kiyX1_addProduct, kyX1_addProduct, ⟨_, rfl, rfl⟩, rfl, by decide +kernel, by decide +kernel, by decide +kernel⟩
/-- RoundedSums$Forms.addProduct -/
theorem v1_157 {E : Ev} {cc : ByteArray} {nL : Nat} {ret : Option FieldType} {R : Room} {cl sl : Nat} {Z : Zt} {pc : Nat} {L st : List Vv} {M : Mm} {N : Nn} {a b : Nat} {x0 : Nm} {x1 : Nm} {x2 : Nm} {x3 : Int} {h : Nat} {P : Mm → Nn → Prop} (hd : decode cc pc = .ok (.invokevirtual 157, 3)) (hct : Nat.ble (ctL st) 8 = true) (hR : Nat.ble (h + 1) R.frames = true ∧ Nat.ble (8 + (5 + 11) + 40 * h) R.locals = true) (hcl : Nat.ble cl R.cells = true ∧ Nat.ble sl R.slots = true) (hc : Ct E yX1_addProduct cX1_addProduct 5 (none) (rmH h) [vr (7, a, b), vr x0, vr x1, vr x2, vi x3] M N (qv P)) (k : ∀ M1 N1, P M1 N1 → Go E RX1 cc nL ret R cl sl Z (pc + 3) L (st) M1 N1) : Go E RX1 cc nL ret R cl sl Z (pc) L (vi x3 :: vr x2 :: vr x1 :: vr x0 :: vr (7, a, b) :: st) M N := go_callV (As := [vr x0, vr x1, vr x2, vi x3]) hd l1_157 rfl rfl rfl hct ⟨rfl, rfl⟩ ⟨Nat.le_of_ble_eq_true hR.1, Nat.le_of_ble_eq_true hR.2⟩ hc hcl (fun r M1 N1 h => by obtain ⟨rfl, h⟩ := h; exact k M1 N1 h)
theorem mw1_161 : Cond.methodLink RX1 161 yX0_addNumbers ∈ BIG := bg3 126 (by decide +kernel) rfl
theorem l1_161 : LkV RX1 161 0 yX0_addNumbers cX0_addNumbers 5 (none) 2 := ⟨mw1_161, knyX0_addNumbers, ksyX0_addNumbers, kiyX0_addNumbers, kyX0_addNumbers, ⟨_, rfl, rfl⟩, rfl, by decide +kernel, by decide +kernel, by decide +kernel⟩
/-- RoundedSums$Form.addNumbers -/
theorem v1_161 {E : Ev} {cc : ByteArray} {nL : Nat} {ret : Option FieldType} {R : Room} {cl sl : Nat} {Z : Zt} {pc : Nat} {L st : List Vv} {M : Mm} {N : Nn} {a b : Nat} {x0 : Nm} {x1 : Int} {h : Nat} {P : Mm → Nn → Prop} (hd : decode cc pc = .ok (.invokevirtual 161, 3)) (hct : Nat.ble (ctL st) 8 = true) (hR : Nat.ble (h + 1) R.frames = true ∧ Nat.ble (8 + (5 + 11) + 40 * h) R.locals = true) (hcl : Nat.ble cl R.cells = true ∧ Nat.ble sl R.slots = true) (hc : Ct E yX0_addNumbers cX0_addNumbers 5 (none) (rmH h) [vr (15, a, b), vr x0, vl x1] M N (qv P)) (k : ∀ M1 N1, P M1 N1 → Go E RX1 cc nL ret R cl sl Z (pc + 3) L (st) M1 N1) : Go E RX1 cc nL ret R cl sl Z (pc) L (vl x1 :: vr x0 :: vr (15, a, b) :: st) M N := go_callV (As := [vr x0, vl x1]) hd l1_161 rfl rfl rfl hct ⟨rfl, rfl⟩ ⟨Nat.le_of_ble_eq_true hR.1, Nat.le_of_ble_eq_true hR.2⟩ hc hcl (fun r M1 N1 h => by obtain ⟨rfl, h⟩ := h; exact k M1 N1 h)
theorem kyX1_waysOf : Cond.code yX1_waysOf cX1_waysOf 12 ((some .int)) ∈ BIG := bg3 142 (rfl) rfl
theorem kiyX1_waysOf : Cond.initialized yX1_waysOf.cls ∈ BIG := bg1 3 (by decide +kernel) rfl
theorem knyX1_waysOf : Cond.instanceMethod yX1_waysOf ∈ BIG := bg3 141 (by decide +kernel) rfl
theorem ksyX1_waysOf : Cond.selects yX1_waysOf.cls yX1_waysOf yX1_waysOf ∈ BIG := bgp (q := (yX1_waysOf, 14)) (List.mem_of_getElem? (i := 31) (by decide +kernel)) rfl
theorem mw1_164 : Cond.methodLink RX1 164 yX1_waysOf ∈ BIG := bg3 139 (by decide +kernel) rfl
theorem l1_164 : LkV RX1 164 1 yX1_waysOf cX1_waysOf 12 ((some .int)) 2 := ⟨mw1_164, knyX1_waysOf, ksyX1_waysOf, kiyX1_waysOf, kyX1_waysOf, ⟨_, rfl, rfl⟩, rfl, by decide +kernel, by decide +kernel, by decide +kernel⟩
/-- RoundedSums$Forms.waysOf -/
theorem v1_164 {E : Ev} {cc : ByteArray} {nL : Nat} {ret : Option FieldType} {R : Room} {cl sl : Nat} {Z : Zt} {pc : Nat} {L st : List Vv} {M : Mm} {N : Nn} {a b : Nat} {x0 : Nm} {x1 : Int} {h : Nat} {P : Int → Mm → Nn → Prop} (hd : decode cc pc = .ok (.invokevirtual 164, 3)) (hct : Nat.ble (ctL st) 8 = true) (hR : Nat.ble (h + 1) R.frames = true ∧ Nat.ble (8 + (12 + 11) + 40 * h) R.locals = true) (hcl : Nat.ble cl R.cells = true ∧ Nat.ble sl R.slots = true) (hc : Ct E yX1_waysOf cX1_waysOf 12 ((some .int)) (rmH h) [vr (7, a, b), vr x0, vi x1] M N (qi P)) (k : ∀ r M1 N1, R32 r → P r M1 N1 → Go E RX1 cc nL ret R cl sl Z (pc + 3) L (vi r :: st) M1 N1) : Go E RX1 cc nL ret R cl sl Z (pc) L (vi x1 :: vr x0 :: vr (7, a, b) :: st) M N := go_callV (As := [vr x0, vi x1]) hd l1_164 rfl rfl rfl hct ⟨rfl, rfl⟩ ⟨Nat.le_of_ble_eq_true hR.1, Nat.le_of_ble_eq_true hR.2⟩ hc hcl (fun r M1 N1 h => by obtain ⟨z, rfl, h1, h⟩ := h; exact k z M1 N1 h1 h)
theorem kyX1_offer : Cond.code yX1_offer cX1_offer 3 (none) ∈ BIG := bg3 162 (rfl) rfl
theorem kiyX1_offer : Cond.initialized yX1_offer.cls ∈ BIG := bg1 3 (by decide +kernel) rfl
theorem knyX1_offer : Cond.instanceMethod yX1_offer ∈ BIG := bg3 161 (by decide +kernel) rfl
theorem ksyX1_offer : Cond.selects yX1_offer.cls yX1_offer yX1_offer ∈ BIG := bgp (q := (yX1_offer, 14)) (List.mem_of_getElem? (i := 32) (by decide +kernel)) rfl
theorem mw1_171 : Cond.methodLink RX1 171 yX1_offer ∈ BIG := bg3 159 (by decide +kernel) rfl
theorem l1_171 : LkV RX1 171 1 yX1_offer cX1_offer 3 (none) 2 := ⟨mw1_171, knyX1_offer, ksyX1_offer, kiyX1_offer, kyX1_offer, ⟨_, rfl, rfl⟩, rfl, by decide +kernel, by decide +kernel, by decide +kernel⟩
/-- RoundedSums$Forms.offer -/
theorem v1_171 {E : Ev} {cc : ByteArray} {nL : Nat} {ret : Option FieldType} {R : Room} {cl sl : Nat} {Z : Zt} {pc : Nat} {L st : List Vv} {M : Mm} {N : Nn} {a b : Nat} {x0 : Int} {x1 : Nm} {h : Nat} {P : Mm → Nn → Prop} (hd : decode cc pc = .ok (.invokevirtual 171, 3)) (hct : Nat.ble (ctL st) 8 = true) (hR : Nat.ble (h + 1) R.frames = true ∧ Nat.ble (8 + (3 + 11) + 40 * h) R.locals = true) (hcl : Nat.ble cl R.cells = true ∧ Nat.ble sl R.slots = true) (hc : Ct E yX1_offer cX1_offer 3 (none) (rmH h) [vr (7, a, b), vi x0, vr x1] M N (qv P)) (k : ∀ M1 N1, P M1 N1 → Go E RX1 cc nL ret R cl sl Z (pc + 3) L (st) M1 N1) : Go E RX1 cc nL ret R cl sl Z (pc) L (vr x1 :: vi x0 :: vr (7, a, b) :: st) M N := go_callV (As := [vi x0, vr x1]) hd l1_171 rfl rfl rfl hct ⟨rfl, rfl⟩ ⟨Nat.le_of_ble_eq_true hR.1, Nat.le_of_ble_eq_true hR.2⟩ hc hcl (fun r M1 N1 h => by obtain ⟨rfl, h⟩ := h; exact k M1 N1 h)
theorem kyX1_join : Cond.code yX1_join cX1_join 8 (none) ∈ BIG := bg3 166 (rfl) rfl
theorem kiyX1_join : Cond.initialized yX1_join.cls ∈ BIG := bg1 3 (by decide +kernel) rfl
theorem knyX1_join : Cond.instanceMethod yX1_join ∈ BIG := bg3 165 (by decide +kernel) rfl
theorem ksyX1_join : Cond.selects yX1_join.cls yX1_join yX1_join ∈ BIG := bgp (q := (yX1_join, 14)) (List.mem_of_getElem? (i := 33) (by decide +kernel)) rfl
theorem mw1_175 : Cond.methodLink RX1 175 yX1_join ∈ BIG := bg3 163 (by decide +kernel) rfl
theorem l1_175 : LkV RX1 175 1 yX1_join cX1_join 8 (none) 2 := ⟨mw1_175, knyX1_join, ksyX1_join, kiyX1_join, kyX1_join, ⟨_, rfl, rfl⟩, rfl, by decide +kernel, by decide +kernel, by decide +kernel⟩
/-- RoundedSums$Forms.join -/
theorem v1_175 {E : Ev} {cc : ByteArray} {nL : Nat} {ret : Option FieldType} {R : Room} {cl sl : Nat} {Z : Zt} {pc : Nat} {L st : List Vv} {M : Mm} {N : Nn} {a b : Nat} {x0 : Nm} {x1 : Int} {h : Nat} {P : Mm → Nn → Prop} (hd : decode cc pc = .ok (.invokevirtual 175, 3)) (hct : Nat.ble (ctL st) 8 = true) (hR : Nat.ble (h + 1) R.frames = true ∧ Nat.ble (8 + (8 + 11) + 40 * h) R.locals = true) (hcl : Nat.ble cl R.cells = true ∧ Nat.ble sl R.slots = true) (hc : Ct E yX1_join cX1_join 8 (none) (rmH h) [vr (7, a, b), vr x0, vi x1] M N (qv P)) (k : ∀ M1 N1, P M1 N1 → Go E RX1 cc nL ret R cl sl Z (pc + 3) L (st) M1 N1) : Go E RX1 cc nL ret R cl sl Z (pc) L (vi x1 :: vr x0 :: vr (7, a, b) :: st) M N := go_callV (As := [vr x0, vi x1]) hd l1_175 rfl rfl rfl hct ⟨rfl, rfl⟩ ⟨Nat.le_of_ble_eq_true hR.1, Nat.le_of_ble_eq_true hR.2⟩ hc hcl (fun r M1 N1 h => by obtain ⟨rfl, h⟩ := h; exact k M1 N1 h)
theorem kyX1_becomeLeap : Cond.code yX1_becomeLeap cX1_becomeLeap 5 (none) ∈ BIG := bg3 170 (rfl) rfl
theorem kiyX1_becomeLeap : Cond.initialized yX1_becomeLeap.cls ∈ BIG := bg1 3 (by decide +kernel) rfl
theorem knyX1_becomeLeap : Cond.instanceMethod yX1_becomeLeap ∈ BIG := bg3 169 (by decide +kernel) rfl
theorem ksyX1_becomeLeap : Cond.selects yX1_becomeLeap.cls yX1_becomeLeap yX1_becomeLeap ∈ BIG := bgp (q := (yX1_becomeLeap, 14)) (List.mem_of_getElem? (i := 34) (by decide +kernel)) rfl
theorem mw1_179 : Cond.methodLink RX1 179 yX1_becomeLeap ∈ BIG := bg3 167 (by decide +kernel) rfl
theorem l1_179 : LkV RX1 179 1 yX1_becomeLeap cX1_becomeLeap 5 (none) 4 := ⟨mw1_179, knyX1_becomeLeap, ksyX1_becomeLeap, kiyX1_becomeLeap, kyX1_becomeLeap, ⟨_, rfl, rfl⟩, rfl, by decide +kernel, by decide +kernel, by decide +kernel⟩
/-- RoundedSums$Forms.becomeLeap -/
theorem v1_179 {E : Ev} {cc : ByteArray} {nL : Nat} {ret : Option FieldType} {R : Room} {cl sl : Nat} {Z : Zt} {pc : Nat} {L st : List Vv} {M : Mm} {N : Nn} {a b : Nat} {x0 : Nm} {x1 : Nm} {x2 : Nm} {x3 : Nm} {h : Nat} {P : Mm → Nn → Prop} (hd : decode cc pc = .ok (.invokevirtual 179, 3)) (hct : Nat.ble (ctL st) 8 = true) (hR : Nat.ble (h + 1) R.frames = true ∧ Nat.ble (8 + (5 + 11) + 40 * h) R.locals = true) (hcl : Nat.ble cl R.cells = true ∧ Nat.ble sl R.slots = true) (hc : Ct E yX1_becomeLeap cX1_becomeLeap 5 (none) (rmH h) [vr (7, a, b), vr x0, vr x1, vr x2, vr x3] M N (qv P)) (k : ∀ M1 N1, P M1 N1 → Go E RX1 cc nL ret R cl sl Z (pc + 3) L (st) M1 N1) : Go E RX1 cc nL ret R cl sl Z (pc) L (vr x3 :: vr x2 :: vr x1 :: vr x0 :: vr (7, a, b) :: st) M N := go_callV (As := [vr x0, vr x1, vr x2, vr x3]) hd l1_179 rfl rfl rfl hct ⟨rfl, rfl⟩ ⟨Nat.le_of_ble_eq_true hR.1, Nat.le_of_ble_eq_true hR.2⟩ hc hcl (fun r M1 N1 h => by obtain ⟨rfl, h⟩ := h; exact k M1 N1 h)
theorem mw1_185 : Cond.methodLink RX1 185 yX0_least ∈ BIG := bg3 144 (by decide +kernel) rfl
theorem l1_185 : LkV RX1 185 0 yX0_least cX0_least 1 ((some .long)) 0 := ⟨mw1_185, knyX0_least, ksyX0_least, kiyX0_least, kyX0_least, ⟨_, rfl, rfl⟩, rfl, by decide +kernel, by decide +kernel, by decide +kernel⟩
/-- RoundedSums$Form.least -/
theorem v1_185 {E : Ev} {cc : ByteArray} {nL : Nat} {ret : Option FieldType} {R : Room} {cl sl : Nat} {Z : Zt} {pc : Nat} {L st : List Vv} {M : Mm} {N : Nn} {a b : Nat}  {h : Nat} {P : Int → Mm → Nn → Prop} (hd : decode cc pc = .ok (.invokevirtual 185, 3)) (hct : Nat.ble (ctL st) 8 = true) (hR : Nat.ble (h + 1) R.frames = true ∧ Nat.ble (8 + (1 + 11) + 40 * h) R.locals = true) (hcl : Nat.ble cl R.cells = true ∧ Nat.ble sl R.slots = true) (hc : Ct E yX0_least cX0_least 1 ((some .long)) (rmH h) [vr (15, a, b)] M N (ql P)) (k : ∀ r M1 N1, R64 r → P r M1 N1 → Go E RX1 cc nL ret R cl sl Z (pc + 3) L (vl r :: st) M1 N1) : Go E RX1 cc nL ret R cl sl Z (pc) L (vr (15, a, b) :: st) M N := go_callV (As := []) hd l1_185 rfl rfl rfl hct ⟨rfl, rfl⟩ ⟨Nat.le_of_ble_eq_true hR.1, Nat.le_of_ble_eq_true hR.2⟩ hc hcl (fun r M1 N1 h => by obtain ⟨z, rfl, h1, h⟩ := h; exact k z M1 N1 h1 h)
theorem mw1_188 : Cond.methodLink RX1 188 yX0_greatest ∈ BIG := bg3 149 (by decide +kernel) rfl
theorem l1_188 : LkV RX1 188 0 yX0_greatest cX0_greatest 1 ((some .long)) 0 := ⟨mw1_188, knyX0_greatest, ksyX0_greatest, kiyX0_greatest, kyX0_greatest, ⟨_, rfl, rfl⟩, rfl, by decide +kernel, by decide +kernel, by decide +kernel⟩
/-- RoundedSums$Form.greatest -/
theorem v1_188 {E : Ev} {cc : ByteArray} {nL : Nat} {ret : Option FieldType} {R : Room} {cl sl : Nat} {Z : Zt} {pc : Nat} {L st : List Vv} {M : Mm} {N : Nn} {a b : Nat}  {h : Nat} {P : Int → Mm → Nn → Prop} (hd : decode cc pc = .ok (.invokevirtual 188, 3)) (hct : Nat.ble (ctL st) 8 = true) (hR : Nat.ble (h + 1) R.frames = true ∧ Nat.ble (8 + (1 + 11) + 40 * h) R.locals = true) (hcl : Nat.ble cl R.cells = true ∧ Nat.ble sl R.slots = true) (hc : Ct E yX0_greatest cX0_greatest 1 ((some .long)) (rmH h) [vr (15, a, b)] M N (ql P)) (k : ∀ r M1 N1, R64 r → P r M1 N1 → Go E RX1 cc nL ret R cl sl Z (pc + 3) L (vl r :: st) M1 N1) : Go E RX1 cc nL ret R cl sl Z (pc) L (vr (15, a, b) :: st) M N := go_callV (As := []) hd l1_188 rfl rfl rfl hct ⟨rfl, rfl⟩ ⟨Nat.le_of_ble_eq_true hR.1, Nat.le_of_ble_eq_true hR.2⟩ hc hcl (fun r M1 N1 h => by obtain ⟨z, rfl, h1, h⟩ := h; exact k z M1 N1 h1 h)
theorem kyJ9_max_f86c9 : Cond.code yJ9_max_f86c9 cJ9_max_f86c9 4 ((some .long)) ∈ BIG := bg3 155 (rfl) rfl
theorem kiyJ9_max_f86c9 : Cond.initialized yJ9_max_f86c9.cls ∈ BIG := bg1 14 (by decide +kernel) rfl
theorem ktyJ9_max_f86c9 : Cond.static yJ9_max_f86c9 ∈ BIG := bg3 154 (by decide +kernel) rfl
theorem mw1_191 : Cond.methodLink RX1 191 yJ9_max_f86c9 ∈ BIG := bg3 153 (by decide +kernel) rfl
theorem l1_191 : LkS RX1 191 yJ9_max_f86c9 cJ9_max_f86c9 4 ((some .long)) 2 := ⟨mw1_191, ktyJ9_max_f86c9, kiyJ9_max_f86c9, kyJ9_max_f86c9, by decide +kernel, by decide +kernel, by decide +kernel⟩
/-- java/lang/Math.max -/
theorem v1_191 {E : Ev} {cc : ByteArray} {nL : Nat} {ret : Option FieldType} {R : Room} {cl sl : Nat} {Z : Zt} {pc : Nat} {L st : List Vv} {M : Mm} {N : Nn} {x0 : Int} {x1 : Int} {h : Nat} {P : Int → Mm → Nn → Prop} (hd : decode cc pc = .ok (.invokestatic 191, 3)) (hct : Nat.ble (ctL st) 8 = true) (hR : Nat.ble (h + 1) R.frames = true ∧ Nat.ble (8 + (4 + 11) + 40 * h) R.locals = true) (hcl : Nat.ble cl R.cells = true ∧ Nat.ble sl R.slots = true) (hc : Ct E yJ9_max_f86c9 cJ9_max_f86c9 4 ((some .long)) (rmH h) [vl x0, vl x1] M N (ql P)) (k : ∀ r M1 N1, R64 r → P r M1 N1 → Go E RX1 cc nL ret R cl sl Z (pc + 3) L (vl r :: st) M1 N1) : Go E RX1 cc nL ret R cl sl Z (pc) L (vl x1 :: vl x0 :: st) M N := go_callS (As := [vl x0, vl x1]) hd l1_191 rfl rfl hct ⟨rfl, rfl⟩ ⟨Nat.le_of_ble_eq_true hR.1, Nat.le_of_ble_eq_true hR.2⟩ hc hcl (fun r M1 N1 h => by obtain ⟨z, rfl, h1, h⟩ := h; exact k z M1 N1 h1 h)
theorem mw1_195 : Cond.methodLink RX1 195 yJ9_min_f86c9 ∈ BIG := bg3 156 (by decide +kernel) rfl
theorem l1_195 : LkS RX1 195 yJ9_min_f86c9 cJ9_min_f86c9 4 ((some .long)) 2 := ⟨mw1_195, ktyJ9_min_f86c9, kiyJ9_min_f86c9, kyJ9_min_f86c9, by decide +kernel, by decide +kernel, by decide +kernel⟩
/-- java/lang/Math.min -/
theorem v1_195 {E : Ev} {cc : ByteArray} {nL : Nat} {ret : Option FieldType} {R : Room} {cl sl : Nat} {Z : Zt} {pc : Nat} {L st : List Vv} {M : Mm} {N : Nn} {x0 : Int} {x1 : Int} {h : Nat} {P : Int → Mm → Nn → Prop} (hd : decode cc pc = .ok (.invokestatic 195, 3)) (hct : Nat.ble (ctL st) 8 = true) (hR : Nat.ble (h + 1) R.frames = true ∧ Nat.ble (8 + (4 + 11) + 40 * h) R.locals = true) (hcl : Nat.ble cl R.cells = true ∧ Nat.ble sl R.slots = true) (hc : Ct E yJ9_min_f86c9 cJ9_min_f86c9 4 ((some .long)) (rmH h) [vl x0, vl x1] M N (ql P)) (k : ∀ r M1 N1, R64 r → P r M1 N1 → Go E RX1 cc nL ret R cl sl Z (pc + 3) L (vl r :: st) M1 N1) : Go E RX1 cc nL ret R cl sl Z (pc) L (vl x1 :: vl x0 :: st) M N := go_callS (As := [vl x0, vl x1]) hd l1_195 rfl rfl hct ⟨rfl, rfl⟩ ⟨Nat.le_of_ble_eq_true hR.1, Nat.le_of_ble_eq_true hR.2⟩ hc hcl (fun r M1 N1 h => by obtain ⟨z, rfl, h1, h⟩ := h; exact k z M1 N1 h1 h)
theorem mw2_36 : Cond.methodLink RX2 36 yX3_copy ∈ BIG := bg4 86 (by decide +kernel) rfl
theorem l2_36 : LkV RX2 36 3 yX3_copy cX3_copy 2 (none) 1 := ⟨mw2_36, knyX3_copy, ksyX3_copy, kiyX3_copy, kyX3_copy, ⟨_, rfl, rfl⟩, rfl, by decide +kernel, by decide +kernel, by decide +kernel⟩
/-- RoundedSums$Program.copy -/
theorem v2_36 {E : Ev} {cc : ByteArray} {nL : Nat} {ret : Option FieldType} {R : Room} {cl sl : Nat} {Z : Zt} {pc : Nat} {L st : List Vv} {M : Mm} {N : Nn} {a b : Nat} {x0 : Nm} {h : Nat} {P : Mm → Nn → Prop} (hd : decode cc pc = .ok (.invokevirtual 36, 3)) (hct : Nat.ble (ctL st) 8 = true) (hR : Nat.ble (h + 1) R.frames = true ∧ Nat.ble (8 + (2 + 11) + 40 * h) R.locals = true) (hcl : Nat.ble cl R.cells = true ∧ Nat.ble sl R.slots = true) (hc : Ct E yX3_copy cX3_copy 2 (none) (rmH h) [vr (18, a, b), vr x0] M N (qv P)) (k : ∀ M1 N1, P M1 N1 → Go E RX2 cc nL ret R cl sl Z (pc + 3) L (st) M1 N1) : Go E RX2 cc nL ret R cl sl Z (pc) L (vr x0 :: vr (18, a, b) :: st) M N := go_callV (As := [vr x0]) hd l2_36 rfl rfl rfl hct ⟨rfl, rfl⟩ ⟨Nat.le_of_ble_eq_true hR.1, Nat.le_of_ble_eq_true hR.2⟩ hc hcl (fun r M1 N1 h => by obtain ⟨rfl, h⟩ := h; exact k M1 N1 h)
theorem kyX2_keepMade : Cond.code yX2_keepMade cX2_keepMade 3 (none) ∈ BIG := bg4 96 (rfl) rfl
theorem kiyX2_keepMade : Cond.initialized yX2_keepMade.cls ∈ BIG := bg1 5 (by decide +kernel) rfl
theorem knyX2_keepMade : Cond.instanceMethod yX2_keepMade ∈ BIG := bg4 95 (by decide +kernel) rfl
theorem ksyX2_keepMade : Cond.selects yX2_keepMade.cls yX2_keepMade yX2_keepMade ∈ BIG := bgp (q := (yX2_keepMade, 8)) (List.mem_of_getElem? (i := 37) (by decide +kernel)) rfl
theorem mw2_58 : Cond.methodLink RX2 58 yX2_keepMade ∈ BIG := bg4 93 (by decide +kernel) rfl
theorem l2_58 : LkV RX2 58 2 yX2_keepMade cX2_keepMade 3 (none) 0 := ⟨mw2_58, knyX2_keepMade, ksyX2_keepMade, kiyX2_keepMade, kyX2_keepMade, ⟨_, rfl, rfl⟩, rfl, by decide +kernel, by decide +kernel, by decide +kernel⟩
/-- RoundedSums$Pieces.keepMade -/
theorem v2_58 {E : Ev} {cc : ByteArray} {nL : Nat} {ret : Option FieldType} {R : Room} {cl sl : Nat} {Z : Zt} {pc : Nat} {L st : List Vv} {M : Mm} {N : Nn} {a b : Nat}  {h : Nat} {P : Mm → Nn → Prop} (hd : decode cc pc = .ok (.invokevirtual 58, 3)) (hct : Nat.ble (ctL st) 8 = true) (hR : Nat.ble (h + 1) R.frames = true ∧ Nat.ble (8 + (3 + 11) + 40 * h) R.locals = true) (hcl : Nat.ble cl R.cells = true ∧ Nat.ble sl R.slots = true) (hc : Ct E yX2_keepMade cX2_keepMade 3 (none) (rmH h) [vr (17, a, b)] M N (qv P)) (k : ∀ M1 N1, P M1 N1 → Go E RX2 cc nL ret R cl sl Z (pc + 3) L (st) M1 N1) : Go E RX2 cc nL ret R cl sl Z (pc) L (vr (17, a, b) :: st) M N := go_callV (As := []) hd l2_58 rfl rfl rfl hct ⟨rfl, rfl⟩ ⟨Nat.le_of_ble_eq_true hR.1, Nat.le_of_ble_eq_true hR.2⟩ hc hcl (fun r M1 N1 h => by obtain ⟨rfl, h⟩ := h; exact k M1 N1 h)
theorem kyX2_worstPiece : Cond.code yX2_worstPiece cX2_worstPiece 3 ((some .int)) ∈ BIG := bg4 106 (rfl) rfl
theorem kiyX2_worstPiece : Cond.initialized yX2_worstPiece.cls ∈ BIG := bg1 5 (by decide +kernel) rfl
theorem knyX2_worstPiece : Cond.instanceMethod yX2_worstPiece ∈ BIG := bg4 105 (by decide +kernel) rfl
theorem ksyX2_worstPiece : Cond.selects yX2_worstPiece.cls yX2_worstPiece yX2_worstPiece ∈ BIG := bgp (q := (yX2_worstPiece, 8)) (List.mem_of_getElem? (i := 38) (by decide +kernel)) rfl
theorem mw2_61 : Cond.methodLink RX2 61 yX2_worstPiece ∈ BIG := bg4 103 (by decide +kernel) rfl
theorem l2_61 : LkV RX2 61 2 yX2_worstPiece cX2_worstPiece 3 ((some .int)) 0 := ⟨mw2_61, knyX2_worstPiece, ksyX2_worstPiece, kiyX2_worstPiece, kyX2_worstPiece, ⟨_, rfl, rfl⟩, rfl, by decide +kernel, by decide +kernel, by decide +kernel⟩
/-- RoundedSums$Pieces.worstPiece -/
theorem v2_61 {E : Ev} {cc : ByteArray} {nL : Nat} {ret : Option FieldType} {R : Room} {cl sl : Nat} {Z : Zt} {pc : Nat} {L st : List Vv} {M : Mm} {N : Nn} {a b : Nat}  {h : Nat} {P : Int → Mm → Nn → Prop} (hd : decode cc pc = .ok (.invokevirtual 61, 3)) (hct : Nat.ble (ctL st) 8 = true) (hR : Nat.ble (h + 1) R.frames = true ∧ Nat.ble (8 + (3 + 11) + 40 * h) R.locals = true) (hcl : Nat.ble cl R.cells = true ∧ Nat.ble sl R.slots = true) (hc : Ct E yX2_worstPiece cX2_worstPiece 3 ((some .int)) (rmH h) [vr (17, a, b)] M N (qi P)) (k : ∀ r M1 N1, R32 r → P r M1 N1 → Go E RX2 cc nL ret R cl sl Z (pc + 3) L (vi r :: st) M1 N1) : Go E RX2 cc nL ret R cl sl Z (pc) L (vr (17, a, b) :: st) M N := go_callV (As := []) hd l2_61 rfl rfl rfl hct ⟨rfl, rfl⟩ ⟨Nat.le_of_ble_eq_true hR.1, Nat.le_of_ble_eq_true hR.2⟩ hc hcl (fun r M1 N1 h => by obtain ⟨z, rfl, h1, h⟩ := h; exact k z M1 N1 h1 h)
theorem kyX2_widestInput : Cond.code yX2_widestInput cX2_widestInput 6 ((some .int)) ∈ BIG := bg4 110 (rfl) rfl
theorem kiyX2_widestInput : Cond.initialized yX2_widestInput.cls ∈ BIG := bg1 5 (by decide +kernel) rfl
theorem knyX2_widestInput : Cond.instanceMethod yX2_widestInput ∈ BIG := bg4 109 (by decide +kernel) rfl
theorem ksyX2_widestInput : Cond.selects yX2_widestInput.cls yX2_widestInput yX2_widestInput ∈ BIG := bgp (q := (yX2_widestInput, 8)) (List.mem_of_getElem? (i := 39) (by decide +kernel)) rfl
theorem mw2_65 : Cond.methodLink RX2 65 yX2_widestInput ∈ BIG := bg4 107 (by decide +kernel) rfl
theorem l2_65 : LkV RX2 65 2 yX2_widestInput cX2_widestInput 6 ((some .int)) 1 := ⟨mw2_65, knyX2_widestInput, ksyX2_widestInput, kiyX2_widestInput, kyX2_widestInput, ⟨_, rfl, rfl⟩, rfl, by decide +kernel, by decide +kernel, by decide +kernel⟩
/-- RoundedSums$Pieces.widestInput -/
theorem v2_65 {E : Ev} {cc : ByteArray} {nL : Nat} {ret : Option FieldType} {R : Room} {cl sl : Nat} {Z : Zt} {pc : Nat} {L st : List Vv} {M : Mm} {N : Nn} {a b : Nat} {x0 : Int} {h : Nat} {P : Int → Mm → Nn → Prop} (hd : decode cc pc = .ok (.invokevirtual 65, 3)) (hct : Nat.ble (ctL st) 8 = true) (hR : Nat.ble (h + 1) R.frames = true ∧ Nat.ble (8 + (6 + 11) + 40 * h) R.locals = true) (hcl : Nat.ble cl R.cells = true ∧ Nat.ble sl R.slots = true) (hc : Ct E yX2_widestInput cX2_widestInput 6 ((some .int)) (rmH h) [vr (17, a, b), vi x0] M N (qi P)) (k : ∀ r M1 N1, R32 r → P r M1 N1 → Go E RX2 cc nL ret R cl sl Z (pc + 3) L (vi r :: st) M1 N1) : Go E RX2 cc nL ret R cl sl Z (pc) L (vi x0 :: vr (17, a, b) :: st) M N := go_callV (As := [vi x0]) hd l2_65 rfl rfl rfl hct ⟨rfl, rfl⟩ ⟨Nat.le_of_ble_eq_true hR.1, Nat.le_of_ble_eq_true hR.2⟩ hc hcl (fun r M1 N1 h => by obtain ⟨z, rfl, h1, h⟩ := h; exact k z M1 N1 h1 h)
theorem kyX2_copyToNext : Cond.code yX2_copyToNext cX2_copyToNext 2 (none) ∈ BIG := bg4 114 (rfl) rfl
theorem kiyX2_copyToNext : Cond.initialized yX2_copyToNext.cls ∈ BIG := bg1 5 (by decide +kernel) rfl
theorem knyX2_copyToNext : Cond.instanceMethod yX2_copyToNext ∈ BIG := bg4 113 (by decide +kernel) rfl
theorem ksyX2_copyToNext : Cond.selects yX2_copyToNext.cls yX2_copyToNext yX2_copyToNext ∈ BIG := bgp (q := (yX2_copyToNext, 8)) (List.mem_of_getElem? (i := 40) (by decide +kernel)) rfl
theorem mw2_69 : Cond.methodLink RX2 69 yX2_copyToNext ∈ BIG := bg4 111 (by decide +kernel) rfl
theorem l2_69 : LkV RX2 69 2 yX2_copyToNext cX2_copyToNext 2 (none) 1 := ⟨mw2_69, knyX2_copyToNext, ksyX2_copyToNext, kiyX2_copyToNext, kyX2_copyToNext, ⟨_, rfl, rfl⟩, rfl, by decide +kernel, by decide +kernel, by decide +kernel⟩
/-- RoundedSums$Pieces.copyToNext -/
theorem v2_69 {E : Ev} {cc : ByteArray} {nL : Nat} {ret : Option FieldType} {R : Room} {cl sl : Nat} {Z : Zt} {pc : Nat} {L st : List Vv} {M : Mm} {N : Nn} {a b : Nat} {x0 : Int} {h : Nat} {P : Mm → Nn → Prop} (hd : decode cc pc = .ok (.invokevirtual 69, 3)) (hct : Nat.ble (ctL st) 8 = true) (hR : Nat.ble (h + 1) R.frames = true ∧ Nat.ble (8 + (2 + 11) + 40 * h) R.locals = true) (hcl : Nat.ble cl R.cells = true ∧ Nat.ble sl R.slots = true) (hc : Ct E yX2_copyToNext cX2_copyToNext 2 (none) (rmH h) [vr (17, a, b), vi x0] M N (qv P)) (k : ∀ M1 N1, P M1 N1 → Go E RX2 cc nL ret R cl sl Z (pc + 3) L (st) M1 N1) : Go E RX2 cc nL ret R cl sl Z (pc) L (vi x0 :: vr (17, a, b) :: st) M N := go_callV (As := [vi x0]) hd l2_69 rfl rfl rfl hct ⟨rfl, rfl⟩ ⟨Nat.le_of_ble_eq_true hR.1, Nat.le_of_ble_eq_true hR.2⟩ hc hcl (fun r M1 N1 h => by obtain ⟨rfl, h⟩ := h; exact k M1 N1 h)
theorem mw2_84 : Cond.methodLink RX2 84 yX1_reckon ∈ BIG := bg4 97 (by decide +kernel) rfl
theorem l2_84 : LkV RX2 84 1 yX1_reckon cX1_reckon 5 (none) 2 := ⟨mw2_84, knyX1_reckon, ksyX1_reckon, kiyX1_reckon, kyX1_reckon, ⟨_, rfl, rfl⟩, rfl, by decide +kernel, by decide +kernel, by decide +kernel⟩
/-- RoundedSums$Forms.reckon -/
theorem v2_84 {E : Ev} {cc : ByteArray} {nL : Nat} {ret : Option FieldType} {R : Room} {cl sl : Nat} {Z : Zt} {pc : Nat} {L st : List Vv} {M : Mm} {N : Nn} {a b : Nat} {x0 : Nm} {x1 : Int} {h : Nat} {P : Mm → Nn → Prop} (hd : decode cc pc = .ok (.invokevirtual 84, 3)) (hct : Nat.ble (ctL st) 8 = true) (hR : Nat.ble (h + 1) R.frames = true ∧ Nat.ble (8 + (5 + 11) + 40 * h) R.locals = true) (hcl : Nat.ble cl R.cells = true ∧ Nat.ble sl R.slots = true) (hc : Ct E yX1_reckon cX1_reckon 5 (none) (rmH h) [vr (7, a, b), vr x0, vi x1] M N (qv P)) (k : ∀ M1 N1, P M1 N1 → Go E RX2 cc nL ret R cl sl Z (pc + 3) L (st) M1 N1) : Go E RX2 cc nL ret R cl sl Z (pc) L (vi x1 :: vr x0 :: vr (7, a, b) :: st) M N := go_callV (As := [vr x0, vi x1]) hd l2_84 rfl rfl rfl hct ⟨rfl, rfl⟩ ⟨Nat.le_of_ble_eq_true hR.1, Nat.le_of_ble_eq_true hR.2⟩ hc hcl (fun r M1 N1 h => by obtain ⟨rfl, h⟩ := h; exact k M1 N1 h)
theorem mw2_88 : Cond.methodLink RX2 88 yX1_boundOf ∈ BIG := bg4 98 (by decide +kernel) rfl
theorem l2_88 : LkV RX2 88 1 yX1_boundOf cX1_boundOf 4 ((some .long)) 1 := ⟨mw2_88, knyX1_boundOf, ksyX1_boundOf, kiyX1_boundOf, kyX1_boundOf, ⟨_, rfl, rfl⟩, rfl, by decide +kernel, by decide +kernel, by decide +kernel⟩
/-- RoundedSums$Forms.boundOf -/
theorem v2_88 {E : Ev} {cc : ByteArray} {nL : Nat} {ret : Option FieldType} {R : Room} {cl sl : Nat} {Z : Zt} {pc : Nat} {L st : List Vv} {M : Mm} {N : Nn} {a b : Nat} {x0 : Int} {h : Nat} {P : Int → Mm → Nn → Prop} (hd : decode cc pc = .ok (.invokevirtual 88, 3)) (hct : Nat.ble (ctL st) 8 = true) (hR : Nat.ble (h + 1) R.frames = true ∧ Nat.ble (8 + (4 + 11) + 40 * h) R.locals = true) (hcl : Nat.ble cl R.cells = true ∧ Nat.ble sl R.slots = true) (hc : Ct E yX1_boundOf cX1_boundOf 4 ((some .long)) (rmH h) [vr (7, a, b), vi x0] M N (ql P)) (k : ∀ r M1 N1, R64 r → P r M1 N1 → Go E RX2 cc nL ret R cl sl Z (pc + 3) L (vl r :: st) M1 N1) : Go E RX2 cc nL ret R cl sl Z (pc) L (vi x0 :: vr (7, a, b) :: st) M N := go_callV (As := [vi x0]) hd l2_88 rfl rfl rfl hct ⟨rfl, rfl⟩ ⟨Nat.le_of_ble_eq_true hR.1, Nat.le_of_ble_eq_true hR.2⟩ hc hcl (fun r M1 N1 h => by obtain ⟨z, rfl, h1, h⟩ := h; exact k z M1 N1 h1 h)
theorem mw3_59 : Cond.methodLink RX3 59 yX3_isPick ∈ BIG := bg3 17 (by decide +kernel) rfl
theorem l3_59 : LkV RX3 59 3 yX3_isPick cX3_isPick 2 ((some .boolean)) 1 := ⟨mw3_59, knyX3_isPick, ksyX3_isPick, kiyX3_isPick, kyX3_isPick, ⟨_, rfl, rfl⟩, rfl, by decide +kernel, by decide +kernel, by decide +kernel⟩
/-- RoundedSums$Program.isPick -/
theorem v3_59 {E : Ev} {cc : ByteArray} {nL : Nat} {ret : Option FieldType} {R : Room} {cl sl : Nat} {Z : Zt} {pc : Nat} {L st : List Vv} {M : Mm} {N : Nn} {a b : Nat} {x0 : Int} {h : Nat} {P : Int → Mm → Nn → Prop} (hd : decode cc pc = .ok (.invokevirtual 59, 3)) (hct : Nat.ble (ctL st) 8 = true) (hR : Nat.ble (h + 1) R.frames = true ∧ Nat.ble (8 + (2 + 11) + 40 * h) R.locals = true) (hcl : Nat.ble cl R.cells = true ∧ Nat.ble sl R.slots = true) (hc : Ct E yX3_isPick cX3_isPick 2 ((some .boolean)) (rmH h) [vr (18, a, b), vi x0] M N (qi P)) (k : ∀ r M1 N1, R32 r → P r M1 N1 → Go E RX3 cc nL ret R cl sl Z (pc + 3) L (vi r :: st) M1 N1) : Go E RX3 cc nL ret R cl sl Z (pc) L (vi x0 :: vr (18, a, b) :: st) M N := go_callV (As := [vi x0]) hd l3_59 rfl rfl rfl hct ⟨rfl, rfl⟩ ⟨Nat.le_of_ble_eq_true hR.1, Nat.le_of_ble_eq_true hR.2⟩ hc hcl (fun r M1 N1 h => by obtain ⟨z, rfl, h1, h⟩ := h; exact k z M1 N1 h1 h)
theorem kyX3_settle : Cond.code yX3_settle cX3_settle 4 ((some .boolean)) ∈ BIG := bg3 2 (rfl) rfl
theorem kiyX3_settle : Cond.initialized yX3_settle.cls ∈ BIG := bg1 6 (by decide +kernel) rfl
theorem knyX3_settle : Cond.instanceMethod yX3_settle ∈ BIG := bg3 1 (by decide +kernel) rfl
theorem ksyX3_settle : Cond.selects yX3_settle.cls yX3_settle yX3_settle ∈ BIG := bgp (q := (yX3_settle, 13)) (List.mem_of_getElem? (i := 12) (by decide +kernel)) rfl
theorem mw3_63 : Cond.methodLink RX3 63 yX3_settle ∈ BIG := bg2 239 (by decide +kernel) rfl
theorem l3_63 : LkV RX3 63 3 yX3_settle cX3_settle 4 ((some .boolean)) 1 := ⟨mw3_63, knyX3_settle, ksyX3_settle, kiyX3_settle, kyX3_settle, ⟨_, rfl, rfl⟩, rfl, by decide +kernel, by decide +kernel, by decide +kernel⟩
/-- RoundedSums$Program.settle -/
theorem v3_63 {E : Ev} {cc : ByteArray} {nL : Nat} {ret : Option FieldType} {R : Room} {cl sl : Nat} {Z : Zt} {pc : Nat} {L st : List Vv} {M : Mm} {N : Nn} {a b : Nat} {x0 : Int} {h : Nat} {P : Int → Mm → Nn → Prop} (hd : decode cc pc = .ok (.invokevirtual 63, 3)) (hct : Nat.ble (ctL st) 8 = true) (hR : Nat.ble (h + 1) R.frames = true ∧ Nat.ble (8 + (4 + 11) + 40 * h) R.locals = true) (hcl : Nat.ble cl R.cells = true ∧ Nat.ble sl R.slots = true) (hc : Ct E yX3_settle cX3_settle 4 ((some .boolean)) (rmH h) [vr (18, a, b), vi x0] M N (qi P)) (k : ∀ r M1 N1, R32 r → P r M1 N1 → Go E RX3 cc nL ret R cl sl Z (pc + 3) L (vi r :: st) M1 N1) : Go E RX3 cc nL ret R cl sl Z (pc) L (vi x0 :: vr (18, a, b) :: st) M N := go_callV (As := [vi x0]) hd l3_63 rfl rfl rfl hct ⟨rfl, rfl⟩ ⟨Nat.le_of_ble_eq_true hR.1, Nat.le_of_ble_eq_true hR.2⟩ hc hcl (fun r M1 N1 h => by obtain ⟨z, rfl, h1, h⟩ := h; exact k z M1 N1 h1 h)
theorem mw3_66 : Cond.methodLink RX3 66 yX3_isInput ∈ BIG := bg3 3 (by decide +kernel) rfl
theorem l3_66 : LkV RX3 66 3 yX3_isInput cX3_isInput 2 ((some .boolean)) 1 := ⟨mw3_66, knyX3_isInput, ksyX3_isInput, kiyX3_isInput, kyX3_isInput, ⟨_, rfl, rfl⟩, rfl, by decide +kernel, by decide +kernel, by decide +kernel⟩
/-- RoundedSums$Program.isInput -/
theorem v3_66 {E : Ev} {cc : ByteArray} {nL : Nat} {ret : Option FieldType} {R : Room} {cl sl : Nat} {Z : Zt} {pc : Nat} {L st : List Vv} {M : Mm} {N : Nn} {a b : Nat} {x0 : Int} {h : Nat} {P : Int → Mm → Nn → Prop} (hd : decode cc pc = .ok (.invokevirtual 66, 3)) (hct : Nat.ble (ctL st) 8 = true) (hR : Nat.ble (h + 1) R.frames = true ∧ Nat.ble (8 + (2 + 11) + 40 * h) R.locals = true) (hcl : Nat.ble cl R.cells = true ∧ Nat.ble sl R.slots = true) (hc : Ct E yX3_isInput cX3_isInput 2 ((some .boolean)) (rmH h) [vr (18, a, b), vi x0] M N (qi P)) (k : ∀ r M1 N1, R32 r → P r M1 N1 → Go E RX3 cc nL ret R cl sl Z (pc + 3) L (vi r :: st) M1 N1) : Go E RX3 cc nL ret R cl sl Z (pc) L (vi x0 :: vr (18, a, b) :: st) M N := go_callV (As := [vi x0]) hd l3_66 rfl rfl rfl hct ⟨rfl, rfl⟩ ⟨Nat.le_of_ble_eq_true hR.1, Nat.le_of_ble_eq_true hR.2⟩ hc hcl (fun r M1 N1 h => by obtain ⟨z, rfl, h1, h⟩ := h; exact k z M1 N1 h1 h)
theorem kyJ9_abs_0f7a4 : Cond.code yJ9_abs_0f7a4 cJ9_abs_0f7a4 1 ((some .int)) ∈ BIG := bg3 9 (rfl) rfl
theorem kiyJ9_abs_0f7a4 : Cond.initialized yJ9_abs_0f7a4.cls ∈ BIG := bg1 14 (by decide +kernel) rfl
theorem ktyJ9_abs_0f7a4 : Cond.static yJ9_abs_0f7a4 ∈ BIG := bg3 8 (by decide +kernel) rfl
theorem mw3_69 : Cond.methodLink RX3 69 yJ9_abs_0f7a4 ∈ BIG := bg3 7 (by decide +kernel) rfl
theorem l3_69 : LkS RX3 69 yJ9_abs_0f7a4 cJ9_abs_0f7a4 1 ((some .int)) 1 := ⟨mw3_69, ktyJ9_abs_0f7a4, kiyJ9_abs_0f7a4, kyJ9_abs_0f7a4, by decide +kernel, by decide +kernel, by decide +kernel⟩
/-- java/lang/Math.abs -/
theorem v3_69 {E : Ev} {cc : ByteArray} {nL : Nat} {ret : Option FieldType} {R : Room} {cl sl : Nat} {Z : Zt} {pc : Nat} {L st : List Vv} {M : Mm} {N : Nn} {x0 : Int} {h : Nat} {P : Int → Mm → Nn → Prop} (hd : decode cc pc = .ok (.invokestatic 69, 3)) (hct : Nat.ble (ctL st) 8 = true) (hR : Nat.ble (h + 1) R.frames = true ∧ Nat.ble (8 + (1 + 11) + 40 * h) R.locals = true) (hcl : Nat.ble cl R.cells = true ∧ Nat.ble sl R.slots = true) (hc : Ct E yJ9_abs_0f7a4 cJ9_abs_0f7a4 1 ((some .int)) (rmH h) [vi x0] M N (qi P)) (k : ∀ r M1 N1, R32 r → P r M1 N1 → Go E RX3 cc nL ret R cl sl Z (pc + 3) L (vi r :: st) M1 N1) : Go E RX3 cc nL ret R cl sl Z (pc) L (vi x0 :: st) M N := go_callS (As := [vi x0]) hd l3_69 rfl rfl hct ⟨rfl, rfl⟩ ⟨Nat.le_of_ble_eq_true hR.1, Nat.le_of_ble_eq_true hR.2⟩ hc hcl (fun r M1 N1 h => by obtain ⟨z, rfl, h1, h⟩ := h; exact k z M1 N1 h1 h)
theorem kyJ9_max_7cf53 : Cond.code yJ9_max_7cf53 cJ9_max_7cf53 2 ((some .int)) ∈ BIG := bg3 12 (rfl) rfl
theorem kiyJ9_max_7cf53 : Cond.initialized yJ9_max_7cf53.cls ∈ BIG := bg1 14 (by decide +kernel) rfl
theorem ktyJ9_max_7cf53 : Cond.static yJ9_max_7cf53 ∈ BIG := bg3 11 (by decide +kernel) rfl
theorem mw3_75 : Cond.methodLink RX3 75 yJ9_max_7cf53 ∈ BIG := bg3 10 (by decide +kernel) rfl
theorem l3_75 : LkS RX3 75 yJ9_max_7cf53 cJ9_max_7cf53 2 ((some .int)) 2 := ⟨mw3_75, ktyJ9_max_7cf53, kiyJ9_max_7cf53, kyJ9_max_7cf53, by decide +kernel, by decide +kernel, by decide +kernel⟩
/-- java/lang/Math.max -/
theorem v3_75 {E : Ev} {cc : ByteArray} {nL : Nat} {ret : Option FieldType} {R : Room} {cl sl : Nat} {Z : Zt} {pc : Nat} {L st : List Vv} {M : Mm} {N : Nn} {x0 : Int} {x1 : Int} {h : Nat} {P : Int → Mm → Nn → Prop} (hd : decode cc pc = .ok (.invokestatic 75, 3)) (hct : Nat.ble (ctL st) 8 = true) (hR : Nat.ble (h + 1) R.frames = true ∧ Nat.ble (8 + (2 + 11) + 40 * h) R.locals = true) (hcl : Nat.ble cl R.cells = true ∧ Nat.ble sl R.slots = true) (hc : Ct E yJ9_max_7cf53 cJ9_max_7cf53 2 ((some .int)) (rmH h) [vi x0, vi x1] M N (qi P)) (k : ∀ r M1 N1, R32 r → P r M1 N1 → Go E RX3 cc nL ret R cl sl Z (pc + 3) L (vi r :: st) M1 N1) : Go E RX3 cc nL ret R cl sl Z (pc) L (vi x1 :: vi x0 :: st) M N := go_callS (As := [vi x0, vi x1]) hd l3_75 rfl rfl hct ⟨rfl, rfl⟩ ⟨Nat.le_of_ble_eq_true hR.1, Nat.le_of_ble_eq_true hR.2⟩ hc hcl (fun r M1 N1 h => by obtain ⟨z, rfl, h1, h⟩ := h; exact k z M1 N1 h1 h)
theorem mw3_79 : Cond.methodLink RX3 79 yX3_operands ∈ BIG := bg3 13 (by decide +kernel) rfl
theorem l3_79 : LkV RX3 79 3 yX3_operands cX3_operands 2 ((some .int)) 1 := ⟨mw3_79, knyX3_operands, ksyX3_operands, kiyX3_operands, kyX3_operands, ⟨_, rfl, rfl⟩, rfl, by decide +kernel, by decide +kernel, by decide +kernel⟩
/-- RoundedSums$Program.operands -/
theorem v3_79 {E : Ev} {cc : ByteArray} {nL : Nat} {ret : Option FieldType} {R : Room} {cl sl : Nat} {Z : Zt} {pc : Nat} {L st : List Vv} {M : Mm} {N : Nn} {a b : Nat} {x0 : Int} {h : Nat} {P : Int → Mm → Nn → Prop} (hd : decode cc pc = .ok (.invokevirtual 79, 3)) (hct : Nat.ble (ctL st) 8 = true) (hR : Nat.ble (h + 1) R.frames = true ∧ Nat.ble (8 + (2 + 11) + 40 * h) R.locals = true) (hcl : Nat.ble cl R.cells = true ∧ Nat.ble sl R.slots = true) (hc : Ct E yX3_operands cX3_operands 2 ((some .int)) (rmH h) [vr (18, a, b), vi x0] M N (qi P)) (k : ∀ r M1 N1, R32 r → P r M1 N1 → Go E RX3 cc nL ret R cl sl Z (pc + 3) L (vi r :: st) M1 N1) : Go E RX3 cc nL ret R cl sl Z (pc) L (vi x0 :: vr (18, a, b) :: st) M N := go_callV (As := [vi x0]) hd l3_79 rfl rfl rfl hct ⟨rfl, rfl⟩ ⟨Nat.le_of_ble_eq_true hR.1, Nat.le_of_ble_eq_true hR.2⟩ hc hcl (fun r M1 N1 h => by obtain ⟨z, rfl, h1, h⟩ := h; exact k z M1 N1 h1 h)
theorem mw3_82 : Cond.methodLink RX3 82 yX3_reckonedFine ∈ BIG := bg3 21 (by decide +kernel) rfl
theorem l3_82 : LkV RX3 82 3 yX3_reckonedFine cX3_reckonedFine 4 ((some .int)) 1 := ⟨mw3_82, knyX3_reckonedFine, ksyX3_reckonedFine, kiyX3_reckonedFine, kyX3_reckonedFine, ⟨_, rfl, rfl⟩, rfl, by decide +kernel, by decide +kernel, by decide +kernel⟩
/-- RoundedSums$Program.reckonedFine -/
theorem v3_82 {E : Ev} {cc : ByteArray} {nL : Nat} {ret : Option FieldType} {R : Room} {cl sl : Nat} {Z : Zt} {pc : Nat} {L st : List Vv} {M : Mm} {N : Nn} {a b : Nat} {x0 : Int} {h : Nat} {P : Int → Mm → Nn → Prop} (hd : decode cc pc = .ok (.invokevirtual 82, 3)) (hct : Nat.ble (ctL st) 8 = true) (hR : Nat.ble (h + 1) R.frames = true ∧ Nat.ble (8 + (4 + 11) + 40 * h) R.locals = true) (hcl : Nat.ble cl R.cells = true ∧ Nat.ble sl R.slots = true) (hc : Ct E yX3_reckonedFine cX3_reckonedFine 4 ((some .int)) (rmH h) [vr (18, a, b), vi x0] M N (qi P)) (k : ∀ r M1 N1, R32 r → P r M1 N1 → Go E RX3 cc nL ret R cl sl Z (pc + 3) L (vi r :: st) M1 N1) : Go E RX3 cc nL ret R cl sl Z (pc) L (vi x0 :: vr (18, a, b) :: st) M N := go_callV (As := [vi x0]) hd l3_82 rfl rfl rfl hct ⟨rfl, rfl⟩ ⟨Nat.le_of_ble_eq_true hR.1, Nat.le_of_ble_eq_true hR.2⟩ hc hcl (fun r M1 N1 h => by obtain ⟨z, rfl, h1, h⟩ := h; exact k z M1 N1 h1 h)
theorem kyX3_reckonedWeight : Cond.code yX3_reckonedWeight cX3_reckonedWeight 6 ((some .long)) ∈ BIG := bg3 35 (rfl) rfl
theorem kiyX3_reckonedWeight : Cond.initialized yX3_reckonedWeight.cls ∈ BIG := bg1 6 (by decide +kernel) rfl
theorem knyX3_reckonedWeight : Cond.instanceMethod yX3_reckonedWeight ∈ BIG := bg3 34 (by decide +kernel) rfl
theorem ksyX3_reckonedWeight : Cond.selects yX3_reckonedWeight.cls yX3_reckonedWeight yX3_reckonedWeight ∈ BIG := bgp (q := (yX3_reckonedWeight, 13)) (List.mem_of_getElem? (i := 14) (by decide +kernel)) rfl
theorem mw3_85 : Cond.methodLink RX3 85 yX3_reckonedWeight ∈ BIG := bg3 32 (by decide +kernel) rfl
theorem l3_85 : LkV RX3 85 3 yX3_reckonedWeight cX3_reckonedWeight 6 ((some .long)) 1 := ⟨mw3_85, knyX3_reckonedWeight, ksyX3_reckonedWeight, kiyX3_reckonedWeight, kyX3_reckonedWeight, ⟨_, rfl, rfl⟩, rfl, by decide +kernel, by decide +kernel, by decide +kernel⟩
/-- RoundedSums$Program.reckonedWeight -/
theorem v3_85 {E : Ev} {cc : ByteArray} {nL : Nat} {ret : Option FieldType} {R : Room} {cl sl : Nat} {Z : Zt} {pc : Nat} {L st : List Vv} {M : Mm} {N : Nn} {a b : Nat} {x0 : Int} {h : Nat} {P : Int → Mm → Nn → Prop} (hd : decode cc pc = .ok (.invokevirtual 85, 3)) (hct : Nat.ble (ctL st) 8 = true) (hR : Nat.ble (h + 1) R.frames = true ∧ Nat.ble (8 + (6 + 11) + 40 * h) R.locals = true) (hcl : Nat.ble cl R.cells = true ∧ Nat.ble sl R.slots = true) (hc : Ct E yX3_reckonedWeight cX3_reckonedWeight 6 ((some .long)) (rmH h) [vr (18, a, b), vi x0] M N (ql P)) (k : ∀ r M1 N1, R64 r → P r M1 N1 → Go E RX3 cc nL ret R cl sl Z (pc + 3) L (vl r :: st) M1 N1) : Go E RX3 cc nL ret R cl sl Z (pc) L (vi x0 :: vr (18, a, b) :: st) M N := go_callV (As := [vi x0]) hd l3_85 rfl rfl rfl hct ⟨rfl, rfl⟩ ⟨Nat.le_of_ble_eq_true hR.1, Nat.le_of_ble_eq_true hR.2⟩ hc hcl (fun r M1 N1 h => by obtain ⟨z, rfl, h1, h⟩ := h; exact k z M1 N1 h1 h)
theorem kyX3_operandFine : Cond.code yX3_operandFine cX3_operandFine 6 ((some .int)) ∈ BIG := bg3 28 (rfl) rfl
theorem kiyX3_operandFine : Cond.initialized yX3_operandFine.cls ∈ BIG := bg1 6 (by decide +kernel) rfl
theorem knyX3_operandFine : Cond.instanceMethod yX3_operandFine ∈ BIG := bg3 27 (by decide +kernel) rfl
theorem ksyX3_operandFine : Cond.selects yX3_operandFine.cls yX3_operandFine yX3_operandFine ∈ BIG := bgp (q := (yX3_operandFine, 13)) (List.mem_of_getElem? (i := 13) (by decide +kernel)) rfl
theorem mw3_91 : Cond.methodLink RX3 91 yX3_operandFine ∈ BIG := bg3 25 (by decide +kernel) rfl
theorem l3_91 : LkV RX3 91 3 yX3_operandFine cX3_operandFine 6 ((some .int)) 2 := ⟨mw3_91, knyX3_operandFine, ksyX3_operandFine, kiyX3_operandFine, kyX3_operandFine, ⟨_, rfl, rfl⟩, rfl, by decide +kernel, by decide +kernel, by decide +kernel⟩
/-- RoundedSums$Program.operandFine -/
theorem v3_91 {E : Ev} {cc : ByteArray} {nL : Nat} {ret : Option FieldType} {R : Room} {cl sl : Nat} {Z : Zt} {pc : Nat} {L st : List Vv} {M : Mm} {N : Nn} {a b : Nat} {x0 : Int} {x1 : Int} {h : Nat} {P : Int → Mm → Nn → Prop} (hd : decode cc pc = .ok (.invokevirtual 91, 3)) (hct : Nat.ble (ctL st) 8 = true) (hR : Nat.ble (h + 1) R.frames = true ∧ Nat.ble (8 + (6 + 11) + 40 * h) R.locals = true) (hcl : Nat.ble cl R.cells = true ∧ Nat.ble sl R.slots = true) (hc : Ct E yX3_operandFine cX3_operandFine 6 ((some .int)) (rmH h) [vr (18, a, b), vi x0, vi x1] M N (qi P)) (k : ∀ r M1 N1, R32 r → P r M1 N1 → Go E RX3 cc nL ret R cl sl Z (pc + 3) L (vi r :: st) M1 N1) : Go E RX3 cc nL ret R cl sl Z (pc) L (vi x1 :: vi x0 :: vr (18, a, b) :: st) M N := go_callV (As := [vi x0, vi x1]) hd l3_91 rfl rfl rfl hct ⟨rfl, rfl⟩ ⟨Nat.le_of_ble_eq_true hR.1, Nat.le_of_ble_eq_true hR.2⟩ hc hcl (fun r M1 N1 h => by obtain ⟨z, rfl, h1, h⟩ := h; exact k z M1 N1 h1 h)
theorem kyJ9_min_7cf53 : Cond.code yJ9_min_7cf53 cJ9_min_7cf53 2 ((some .int)) ∈ BIG := bg3 31 (rfl) rfl
theorem kiyJ9_min_7cf53 : Cond.initialized yJ9_min_7cf53.cls ∈ BIG := bg1 14 (by decide +kernel) rfl
theorem ktyJ9_min_7cf53 : Cond.static yJ9_min_7cf53 ∈ BIG := bg3 30 (by decide +kernel) rfl
theorem mw3_94 : Cond.methodLink RX3 94 yJ9_min_7cf53 ∈ BIG := bg3 29 (by decide +kernel) rfl
theorem l3_94 : LkS RX3 94 yJ9_min_7cf53 cJ9_min_7cf53 2 ((some .int)) 2 := ⟨mw3_94, ktyJ9_min_7cf53, kiyJ9_min_7cf53, kyJ9_min_7cf53, by decide +kernel, by decide +kernel, by decide +kernel⟩
/-- java/lang/Math.min -/
theorem v3_94 {E : Ev} {cc : ByteArray} {nL : Nat} {ret : Option FieldType} {R : Room} {cl sl : Nat} {Z : Zt} {pc : Nat} {L st : List Vv} {M : Mm} {N : Nn} {x0 : Int} {x1 : Int} {h : Nat} {P : Int → Mm → Nn → Prop} (hd : decode cc pc = .ok (.invokestatic 94, 3)) (hct : Nat.ble (ctL st) 8 = true) (hR : Nat.ble (h + 1) R.frames = true ∧ Nat.ble (8 + (2 + 11) + 40 * h) R.locals = true) (hcl : Nat.ble cl R.cells = true ∧ Nat.ble sl R.slots = true) (hc : Ct E yJ9_min_7cf53 cJ9_min_7cf53 2 ((some .int)) (rmH h) [vi x0, vi x1] M N (qi P)) (k : ∀ r M1 N1, R32 r → P r M1 N1 → Go E RX3 cc nL ret R cl sl Z (pc + 3) L (vi r :: st) M1 N1) : Go E RX3 cc nL ret R cl sl Z (pc) L (vi x1 :: vi x0 :: st) M N := go_callS (As := [vi x0, vi x1]) hd l3_94 rfl rfl hct ⟨rfl, rfl⟩ ⟨Nat.le_of_ble_eq_true hR.1, Nat.le_of_ble_eq_true hR.2⟩ hc hcl (fun r M1 N1 h => by obtain ⟨z, rfl, h1, h⟩ := h; exact k z M1 N1 h1 h)
theorem kyX3_operandWeight : Cond.code yX3_operandWeight cX3_operandWeight 5 ((some .long)) ∈ BIG := bg3 40 (rfl) rfl
theorem kiyX3_operandWeight : Cond.initialized yX3_operandWeight.cls ∈ BIG := bg1 6 (by decide +kernel) rfl
theorem knyX3_operandWeight : Cond.instanceMethod yX3_operandWeight ∈ BIG := bg3 39 (by decide +kernel) rfl
theorem ksyX3_operandWeight : Cond.selects yX3_operandWeight.cls yX3_operandWeight yX3_operandWeight ∈ BIG := bgp (q := (yX3_operandWeight, 13)) (List.mem_of_getElem? (i := 15) (by decide +kernel)) rfl
theorem mw3_99 : Cond.methodLink RX3 99 yX3_operandWeight ∈ BIG := bg3 37 (by decide +kernel) rfl
theorem l3_99 : LkV RX3 99 3 yX3_operandWeight cX3_operandWeight 5 ((some .long)) 2 := ⟨mw3_99, knyX3_operandWeight, ksyX3_operandWeight, kiyX3_operandWeight, kyX3_operandWeight, ⟨_, rfl, rfl⟩, rfl, by decide +kernel, by decide +kernel, by decide +kernel⟩
/-- RoundedSums$Program.operandWeight -/
theorem v3_99 {E : Ev} {cc : ByteArray} {nL : Nat} {ret : Option FieldType} {R : Room} {cl sl : Nat} {Z : Zt} {pc : Nat} {L st : List Vv} {M : Mm} {N : Nn} {a b : Nat} {x0 : Int} {x1 : Int} {h : Nat} {P : Int → Mm → Nn → Prop} (hd : decode cc pc = .ok (.invokevirtual 99, 3)) (hct : Nat.ble (ctL st) 8 = true) (hR : Nat.ble (h + 1) R.frames = true ∧ Nat.ble (8 + (5 + 11) + 40 * h) R.locals = true) (hcl : Nat.ble cl R.cells = true ∧ Nat.ble sl R.slots = true) (hc : Ct E yX3_operandWeight cX3_operandWeight 5 ((some .long)) (rmH h) [vr (18, a, b), vi x0, vi x1] M N (ql P)) (k : ∀ r M1 N1, R64 r → P r M1 N1 → Go E RX3 cc nL ret R cl sl Z (pc + 3) L (vl r :: st) M1 N1) : Go E RX3 cc nL ret R cl sl Z (pc) L (vi x1 :: vi x0 :: vr (18, a, b) :: st) M N := go_callV (As := [vi x0, vi x1]) hd l3_99 rfl rfl rfl hct ⟨rfl, rfl⟩ ⟨Nat.le_of_ble_eq_true hR.1, Nat.le_of_ble_eq_true hR.2⟩ hc hcl (fun r M1 N1 h => by obtain ⟨z, rfl, h1, h⟩ := h; exact k z M1 N1 h1 h)
theorem kyX4_advance : Cond.code yX4_advance cX4_advance 2 (none) ∈ BIG := bg2 128 (rfl) rfl
theorem kiyX4_advance : Cond.initialized yX4_advance.cls ∈ BIG := bg1 2 (by decide +kernel) rfl
theorem knyX4_advance : Cond.instanceMethod yX4_advance ∈ BIG := bg2 127 (by decide +kernel) rfl
theorem ksyX4_advance : Cond.selects yX4_advance.cls yX4_advance yX4_advance ∈ BIG := bgp (q := (yX4_advance, 13)) (List.mem_of_getElem? (i := 2) (by decide +kernel)) rfl
theorem mw4_40 : Cond.methodLink RX4 40 yX4_advance ∈ BIG := bg2 125 (by decide +kernel) rfl
theorem l4_40 : LkV RX4 40 4 yX4_advance cX4_advance 2 (none) 0 := ⟨mw4_40, knyX4_advance, ksyX4_advance, kiyX4_advance, kyX4_advance, ⟨_, rfl, rfl⟩, rfl, by decide +kernel, by decide +kernel, by decide +kernel⟩
/-- RoundedSums$Reader.advance -/
theorem v4_40 {E : Ev} {cc : ByteArray} {nL : Nat} {ret : Option FieldType} {R : Room} {cl sl : Nat} {Z : Zt} {pc : Nat} {L st : List Vv} {M : Mm} {N : Nn} {a b : Nat}  {h : Nat} {P : Mm → Nn → Prop} (hd : decode cc pc = .ok (.invokevirtual 40, 3)) (hct : Nat.ble (ctL st) 8 = true) (hR : Nat.ble (h + 1) R.frames = true ∧ Nat.ble (8 + (2 + 11) + 40 * h) R.locals = true) (hcl : Nat.ble cl R.cells = true ∧ Nat.ble sl R.slots = true) (hc : Ct E yX4_advance cX4_advance 2 (none) (rmH h) [vr (6, a, b)] M N (qv P)) (k : ∀ M1 N1, P M1 N1 → Go E RX4 cc nL ret R cl sl Z (pc + 3) L (st) M1 N1) : Go E RX4 cc nL ret R cl sl Z (pc) L (vr (6, a, b) :: st) M N := go_callV (As := []) hd l4_40 rfl rfl rfl hct ⟨rfl, rfl⟩ ⟨Nat.le_of_ble_eq_true hR.1, Nat.le_of_ble_eq_true hR.2⟩ hc hcl (fun r M1 N1 h => by obtain ⟨rfl, h⟩ := h; exact k M1 N1 h)
theorem kyX4_readLine : Cond.code yX4_readLine cX4_readLine 3 ((some .boolean)) ∈ BIG := bg2 139 (rfl) rfl
theorem kiyX4_readLine : Cond.initialized yX4_readLine.cls ∈ BIG := bg1 2 (by decide +kernel) rfl
theorem knyX4_readLine : Cond.instanceMethod yX4_readLine ∈ BIG := bg2 138 (by decide +kernel) rfl
theorem ksyX4_readLine : Cond.selects yX4_readLine.cls yX4_readLine yX4_readLine ∈ BIG := bgp (q := (yX4_readLine, 13)) (List.mem_of_getElem? (i := 4) (by decide +kernel)) rfl
theorem mw4_43 : Cond.methodLink RX4 43 yX4_readLine ∈ BIG := bg2 136 (by decide +kernel) rfl
theorem l4_43 : LkV RX4 43 4 yX4_readLine cX4_readLine 3 ((some .boolean)) 0 := ⟨mw4_43, knyX4_readLine, ksyX4_readLine, kiyX4_readLine, kyX4_readLine, ⟨_, rfl, rfl⟩, rfl, by decide +kernel, by decide +kernel, by decide +kernel⟩
/-- RoundedSums$Reader.readLine -/
theorem v4_43 {E : Ev} {cc : ByteArray} {nL : Nat} {ret : Option FieldType} {R : Room} {cl sl : Nat} {Z : Zt} {pc : Nat} {L st : List Vv} {M : Mm} {N : Nn} {a b : Nat}  {h : Nat} {P : Int → Mm → Nn → Prop} (hd : decode cc pc = .ok (.invokevirtual 43, 3)) (hct : Nat.ble (ctL st) 8 = true) (hR : Nat.ble (h + 1) R.frames = true ∧ Nat.ble (8 + (3 + 11) + 40 * h) R.locals = true) (hcl : Nat.ble cl R.cells = true ∧ Nat.ble sl R.slots = true) (hc : Ct E yX4_readLine cX4_readLine 3 ((some .boolean)) (rmH h) [vr (6, a, b)] M N (qi P)) (k : ∀ r M1 N1, R32 r → P r M1 N1 → Go E RX4 cc nL ret R cl sl Z (pc + 3) L (vi r :: st) M1 N1) : Go E RX4 cc nL ret R cl sl Z (pc) L (vr (6, a, b) :: st) M N := go_callV (As := []) hd l4_43 rfl rfl rfl hct ⟨rfl, rfl⟩ ⟨Nat.le_of_ble_eq_true hR.1, Nat.le_of_ble_eq_true hR.2⟩ hc hcl (fun r M1 N1 h => by obtain ⟨z, rfl, h1, h⟩ := h; exact k z M1 N1 h1 h)
theorem mw4_50 : Cond.methodLink RX4 50 yX3_steps ∈ BIG := bg3 42 (by decide +kernel) rfl
theorem l4_50 : LkV RX4 50 3 yX3_steps cX3_steps 1 ((some .int)) 0 := ⟨mw4_50, knyX3_steps, ksyX3_steps, kiyX3_steps, kyX3_steps, ⟨_, rfl, rfl⟩, rfl, by decide +kernel, by decide +kernel, by decide +kernel⟩
/-- RoundedSums$Program.steps -/
theorem v4_50 {E : Ev} {cc : ByteArray} {nL : Nat} {ret : Option FieldType} {R : Room} {cl sl : Nat} {Z : Zt} {pc : Nat} {L st : List Vv} {M : Mm} {N : Nn} {a b : Nat}  {h : Nat} {P : Int → Mm → Nn → Prop} (hd : decode cc pc = .ok (.invokevirtual 50, 3)) (hct : Nat.ble (ctL st) 8 = true) (hR : Nat.ble (h + 1) R.frames = true ∧ Nat.ble (8 + (1 + 11) + 40 * h) R.locals = true) (hcl : Nat.ble cl R.cells = true ∧ Nat.ble sl R.slots = true) (hc : Ct E yX3_steps cX3_steps 1 ((some .int)) (rmH h) [vr (18, a, b)] M N (qi P)) (k : ∀ r M1 N1, R32 r → P r M1 N1 → Go E RX4 cc nL ret R cl sl Z (pc + 3) L (vi r :: st) M1 N1) : Go E RX4 cc nL ret R cl sl Z (pc) L (vr (18, a, b) :: st) M N := go_callV (As := []) hd l4_50 rfl rfl rfl hct ⟨rfl, rfl⟩ ⟨Nat.le_of_ble_eq_true hR.1, Nat.le_of_ble_eq_true hR.2⟩ hc hcl (fun r M1 N1 h => by obtain ⟨z, rfl, h1, h⟩ := h; exact k z M1 N1 h1 h)
theorem kyX4_fail : Cond.code yX4_fail cX4_fail 3 ((some .boolean)) ∈ BIG := bg2 196 (rfl) rfl
theorem kiyX4_fail : Cond.initialized yX4_fail.cls ∈ BIG := bg1 2 (by decide +kernel) rfl
theorem knyX4_fail : Cond.instanceMethod yX4_fail ∈ BIG := bg2 195 (by decide +kernel) rfl
theorem ksyX4_fail : Cond.selects yX4_fail.cls yX4_fail yX4_fail ∈ BIG := bgp (q := (yX4_fail, 13)) (List.mem_of_getElem? (i := 6) (by decide +kernel)) rfl
theorem mw4_57 : Cond.methodLink RX4 57 yX4_fail ∈ BIG := bg2 193 (by decide +kernel) rfl
theorem l4_57 : LkV RX4 57 4 yX4_fail cX4_fail 3 ((some .boolean)) 2 := ⟨mw4_57, knyX4_fail, ksyX4_fail, kiyX4_fail, kyX4_fail, ⟨_, rfl, rfl⟩, rfl, by decide +kernel, by decide +kernel, by decide +kernel⟩
/-- RoundedSums$Reader.fail -/
theorem v4_57 {E : Ev} {cc : ByteArray} {nL : Nat} {ret : Option FieldType} {R : Room} {cl sl : Nat} {Z : Zt} {pc : Nat} {L st : List Vv} {M : Mm} {N : Nn} {a b : Nat} {x0 : Int} {x1 : Int} {h : Nat} {P : Int → Mm → Nn → Prop} (hd : decode cc pc = .ok (.invokevirtual 57, 3)) (hct : Nat.ble (ctL st) 8 = true) (hR : Nat.ble (h + 1) R.frames = true ∧ Nat.ble (8 + (3 + 11) + 40 * h) R.locals = true) (hcl : Nat.ble cl R.cells = true ∧ Nat.ble sl R.slots = true) (hc : Ct E yX4_fail cX4_fail 3 ((some .boolean)) (rmH h) [vr (6, a, b), vi x0, vi x1] M N (qi P)) (k : ∀ r M1 N1, R32 r → P r M1 N1 → Go E RX4 cc nL ret R cl sl Z (pc + 3) L (vi r :: st) M1 N1) : Go E RX4 cc nL ret R cl sl Z (pc) L (vi x1 :: vi x0 :: vr (6, a, b) :: st) M N := go_callV (As := [vi x0, vi x1]) hd l4_57 rfl rfl rfl hct ⟨rfl, rfl⟩ ⟨Nat.le_of_ble_eq_true hR.1, Nat.le_of_ble_eq_true hR.2⟩ hc hcl (fun r M1 N1 h => by obtain ⟨z, rfl, h1, h⟩ := h; exact k z M1 N1 h1 h)
theorem kyX4_skipSign : Cond.code yX4_skipSign cX4_skipSign 2 ((some .boolean)) ∈ BIG := bg3 49 (rfl) rfl
theorem kiyX4_skipSign : Cond.initialized yX4_skipSign.cls ∈ BIG := bg1 2 (by decide +kernel) rfl
theorem knyX4_skipSign : Cond.instanceMethod yX4_skipSign ∈ BIG := bg3 48 (by decide +kernel) rfl
theorem ksyX4_skipSign : Cond.selects yX4_skipSign.cls yX4_skipSign yX4_skipSign ∈ BIG := bgp (q := (yX4_skipSign, 13)) (List.mem_of_getElem? (i := 16) (by decide +kernel)) rfl
theorem mw4_61 : Cond.methodLink RX4 61 yX4_skipSign ∈ BIG := bg3 46 (by decide +kernel) rfl
theorem l4_61 : LkV RX4 61 4 yX4_skipSign cX4_skipSign 2 ((some .boolean)) 1 := ⟨mw4_61, knyX4_skipSign, ksyX4_skipSign, kiyX4_skipSign, kyX4_skipSign, ⟨_, rfl, rfl⟩, rfl, by decide +kernel, by decide +kernel, by decide +kernel⟩
/-- RoundedSums$Reader.skipSign -/
theorem v4_61 {E : Ev} {cc : ByteArray} {nL : Nat} {ret : Option FieldType} {R : Room} {cl sl : Nat} {Z : Zt} {pc : Nat} {L st : List Vv} {M : Mm} {N : Nn} {a b : Nat} {x0 : Int} {h : Nat} {P : Int → Mm → Nn → Prop} (hd : decode cc pc = .ok (.invokevirtual 61, 3)) (hct : Nat.ble (ctL st) 8 = true) (hR : Nat.ble (h + 1) R.frames = true ∧ Nat.ble (8 + (2 + 11) + 40 * h) R.locals = true) (hcl : Nat.ble cl R.cells = true ∧ Nat.ble sl R.slots = true) (hc : Ct E yX4_skipSign cX4_skipSign 2 ((some .boolean)) (rmH h) [vr (6, a, b), vi x0] M N (qi P)) (k : ∀ r M1 N1, R32 r → P r M1 N1 → Go E RX4 cc nL ret R cl sl Z (pc + 3) L (vi r :: st) M1 N1) : Go E RX4 cc nL ret R cl sl Z (pc) L (vi x0 :: vr (6, a, b) :: st) M N := go_callV (As := [vi x0]) hd l4_61 rfl rfl rfl hct ⟨rfl, rfl⟩ ⟨Nat.le_of_ble_eq_true hR.1, Nat.le_of_ble_eq_true hR.2⟩ hc hcl (fun r M1 N1 h => by obtain ⟨z, rfl, h1, h⟩ := h; exact k z M1 N1 h1 h)
theorem kyX4_reads : Cond.code yX4_reads cX4_reads 3 ((some .boolean)) ∈ BIG := bg2 144 (rfl) rfl
theorem kiyX4_reads : Cond.initialized yX4_reads.cls ∈ BIG := bg1 2 (by decide +kernel) rfl
theorem knyX4_reads : Cond.instanceMethod yX4_reads ∈ BIG := bg2 143 (by decide +kernel) rfl
theorem ksyX4_reads : Cond.selects yX4_reads.cls yX4_reads yX4_reads ∈ BIG := bgp (q := (yX4_reads, 13)) (List.mem_of_getElem? (i := 5) (by decide +kernel)) rfl
theorem mw4_67 : Cond.methodLink RX4 67 yX4_reads ∈ BIG := bg2 141 (by decide +kernel) rfl
theorem l4_67 : LkV RX4 67 4 yX4_reads cX4_reads 3 ((some .boolean)) 1 := ⟨mw4_67, knyX4_reads, ksyX4_reads, kiyX4_reads, kyX4_reads, ⟨_, rfl, rfl⟩, rfl, by decide +kernel, by decide +kernel, by decide +kernel⟩
/-- RoundedSums$Reader.reads -/
theorem v4_67 {E : Ev} {cc : ByteArray} {nL : Nat} {ret : Option FieldType} {R : Room} {cl sl : Nat} {Z : Zt} {pc : Nat} {L st : List Vv} {M : Mm} {N : Nn} {a b : Nat} {x0 : Nm} {h : Nat} {P : Int → Mm → Nn → Prop} (hd : decode cc pc = .ok (.invokevirtual 67, 3)) (hct : Nat.ble (ctL st) 8 = true) (hR : Nat.ble (h + 1) R.frames = true ∧ Nat.ble (8 + (3 + 11) + 40 * h) R.locals = true) (hcl : Nat.ble cl R.cells = true ∧ Nat.ble sl R.slots = true) (hc : Ct E yX4_reads cX4_reads 3 ((some .boolean)) (rmH h) [vr (6, a, b), vr x0] M N (qi P)) (k : ∀ r M1 N1, R32 r → P r M1 N1 → Go E RX4 cc nL ret R cl sl Z (pc + 3) L (vi r :: st) M1 N1) : Go E RX4 cc nL ret R cl sl Z (pc) L (vr x0 :: vr (6, a, b) :: st) M N := go_callV (As := [vr x0]) hd l4_67 rfl rfl rfl hct ⟨rfl, rfl⟩ ⟨Nat.le_of_ble_eq_true hR.1, Nat.le_of_ble_eq_true hR.2⟩ hc hcl (fun r M1 N1 h => by obtain ⟨z, rfl, h1, h⟩ := h; exact k z M1 N1 h1 h)
theorem kyX4_readInput : Cond.code yX4_readInput cX4_readInput 2 ((some .boolean)) ∈ BIG := bg2 200 (rfl) rfl
theorem kiyX4_readInput : Cond.initialized yX4_readInput.cls ∈ BIG := bg1 2 (by decide +kernel) rfl
theorem knyX4_readInput : Cond.instanceMethod yX4_readInput ∈ BIG := bg2 199 (by decide +kernel) rfl
theorem ksyX4_readInput : Cond.selects yX4_readInput.cls yX4_readInput yX4_readInput ∈ BIG := bgp (q := (yX4_readInput, 13)) (List.mem_of_getElem? (i := 7) (by decide +kernel)) rfl
theorem mw4_71 : Cond.methodLink RX4 71 yX4_readInput ∈ BIG := bg2 197 (by decide +kernel) rfl
theorem l4_71 : LkV RX4 71 4 yX4_readInput cX4_readInput 2 ((some .boolean)) 0 := ⟨mw4_71, knyX4_readInput, ksyX4_readInput, kiyX4_readInput, kyX4_readInput, ⟨_, rfl, rfl⟩, rfl, by decide +kernel, by decide +kernel, by decide +kernel⟩
/-- RoundedSums$Reader.readInput -/
theorem v4_71 {E : Ev} {cc : ByteArray} {nL : Nat} {ret : Option FieldType} {R : Room} {cl sl : Nat} {Z : Zt} {pc : Nat} {L st : List Vv} {M : Mm} {N : Nn} {a b : Nat}  {h : Nat} {P : Int → Mm → Nn → Prop} (hd : decode cc pc = .ok (.invokevirtual 71, 3)) (hct : Nat.ble (ctL st) 8 = true) (hR : Nat.ble (h + 1) R.frames = true ∧ Nat.ble (8 + (2 + 11) + 40 * h) R.locals = true) (hcl : Nat.ble cl R.cells = true ∧ Nat.ble sl R.slots = true) (hc : Ct E yX4_readInput cX4_readInput 2 ((some .boolean)) (rmH h) [vr (6, a, b)] M N (qi P)) (k : ∀ r M1 N1, R32 r → P r M1 N1 → Go E RX4 cc nL ret R cl sl Z (pc + 3) L (vi r :: st) M1 N1) : Go E RX4 cc nL ret R cl sl Z (pc) L (vr (6, a, b) :: st) M N := go_callV (As := []) hd l4_71 rfl rfl rfl hct ⟨rfl, rfl⟩ ⟨Nat.le_of_ble_eq_true hR.1, Nat.le_of_ble_eq_true hR.2⟩ hc hcl (fun r M1 N1 h => by obtain ⟨z, rfl, h1, h⟩ := h; exact k z M1 N1 h1 h)
theorem kyX4_readNewName : Cond.code yX4_readNewName cX4_readNewName 1 ((some .boolean)) ∈ BIG := bg2 204 (rfl) rfl
theorem kiyX4_readNewName : Cond.initialized yX4_readNewName.cls ∈ BIG := bg1 2 (by decide +kernel) rfl
theorem knyX4_readNewName : Cond.instanceMethod yX4_readNewName ∈ BIG := bg2 203 (by decide +kernel) rfl
theorem ksyX4_readNewName : Cond.selects yX4_readNewName.cls yX4_readNewName yX4_readNewName ∈ BIG := bgp (q := (yX4_readNewName, 13)) (List.mem_of_getElem? (i := 8) (by decide +kernel)) rfl
theorem mw4_76 : Cond.methodLink RX4 76 yX4_readNewName ∈ BIG := bg2 201 (by decide +kernel) rfl
theorem l4_76 : LkV RX4 76 4 yX4_readNewName cX4_readNewName 1 ((some .boolean)) 0 := ⟨mw4_76, knyX4_readNewName, ksyX4_readNewName, kiyX4_readNewName, kyX4_readNewName, ⟨_, rfl, rfl⟩, rfl, by decide +kernel, by decide +kernel, by decide +kernel⟩
/-- RoundedSums$Reader.readNewName -/
theorem v4_76 {E : Ev} {cc : ByteArray} {nL : Nat} {ret : Option FieldType} {R : Room} {cl sl : Nat} {Z : Zt} {pc : Nat} {L st : List Vv} {M : Mm} {N : Nn} {a b : Nat}  {h : Nat} {P : Int → Mm → Nn → Prop} (hd : decode cc pc = .ok (.invokevirtual 76, 3)) (hct : Nat.ble (ctL st) 8 = true) (hR : Nat.ble (h + 1) R.frames = true ∧ Nat.ble (8 + (1 + 11) + 40 * h) R.locals = true) (hcl : Nat.ble cl R.cells = true ∧ Nat.ble sl R.slots = true) (hc : Ct E yX4_readNewName cX4_readNewName 1 ((some .boolean)) (rmH h) [vr (6, a, b)] M N (qi P)) (k : ∀ r M1 N1, R32 r → P r M1 N1 → Go E RX4 cc nL ret R cl sl Z (pc + 3) L (vi r :: st) M1 N1) : Go E RX4 cc nL ret R cl sl Z (pc) L (vr (6, a, b) :: st) M N := go_callV (As := []) hd l4_76 rfl rfl rfl hct ⟨rfl, rfl⟩ ⟨Nat.le_of_ble_eq_true hR.1, Nat.le_of_ble_eq_true hR.2⟩ hc hcl (fun r M1 N1 h => by obtain ⟨z, rfl, h1, h⟩ := h; exact k z M1 N1 h1 h)
theorem kyX4_readPick : Cond.code yX4_readPick cX4_readPick 1 ((some .boolean)) ∈ BIG := bg3 53 (rfl) rfl
theorem kiyX4_readPick : Cond.initialized yX4_readPick.cls ∈ BIG := bg1 2 (by decide +kernel) rfl
theorem knyX4_readPick : Cond.instanceMethod yX4_readPick ∈ BIG := bg3 52 (by decide +kernel) rfl
theorem ksyX4_readPick : Cond.selects yX4_readPick.cls yX4_readPick yX4_readPick ∈ BIG := bgp (q := (yX4_readPick, 13)) (List.mem_of_getElem? (i := 17) (by decide +kernel)) rfl
theorem mw4_81 : Cond.methodLink RX4 81 yX4_readPick ∈ BIG := bg3 50 (by decide +kernel) rfl
theorem l4_81 : LkV RX4 81 4 yX4_readPick cX4_readPick 1 ((some .boolean)) 0 := ⟨mw4_81, knyX4_readPick, ksyX4_readPick, kiyX4_readPick, kyX4_readPick, ⟨_, rfl, rfl⟩, rfl, by decide +kernel, by decide +kernel, by decide +kernel⟩
/-- RoundedSums$Reader.readPick -/
theorem v4_81 {E : Ev} {cc : ByteArray} {nL : Nat} {ret : Option FieldType} {R : Room} {cl sl : Nat} {Z : Zt} {pc : Nat} {L st : List Vv} {M : Mm} {N : Nn} {a b : Nat}  {h : Nat} {P : Int → Mm → Nn → Prop} (hd : decode cc pc = .ok (.invokevirtual 81, 3)) (hct : Nat.ble (ctL st) 8 = true) (hR : Nat.ble (h + 1) R.frames = true ∧ Nat.ble (8 + (1 + 11) + 40 * h) R.locals = true) (hcl : Nat.ble cl R.cells = true ∧ Nat.ble sl R.slots = true) (hc : Ct E yX4_readPick cX4_readPick 1 ((some .boolean)) (rmH h) [vr (6, a, b)] M N (qi P)) (k : ∀ r M1 N1, R32 r → P r M1 N1 → Go E RX4 cc nL ret R cl sl Z (pc + 3) L (vi r :: st) M1 N1) : Go E RX4 cc nL ret R cl sl Z (pc) L (vr (6, a, b) :: st) M N := go_callV (As := []) hd l4_81 rfl rfl rfl hct ⟨rfl, rfl⟩ ⟨Nat.le_of_ble_eq_true hR.1, Nat.le_of_ble_eq_true hR.2⟩ hc hcl (fun r M1 N1 h => by obtain ⟨z, rfl, h1, h⟩ := h; exact k z M1 N1 h1 h)
theorem kyX4_readSum : Cond.code yX4_readSum cX4_readSum 1 ((some .boolean)) ∈ BIG := bg3 65 (rfl) rfl
theorem kiyX4_readSum : Cond.initialized yX4_readSum.cls ∈ BIG := bg1 2 (by decide +kernel) rfl
theorem knyX4_readSum : Cond.instanceMethod yX4_readSum ∈ BIG := bg3 64 (by decide +kernel) rfl
theorem ksyX4_readSum : Cond.selects yX4_readSum.cls yX4_readSum yX4_readSum ∈ BIG := bgp (q := (yX4_readSum, 13)) (List.mem_of_getElem? (i := 19) (by decide +kernel)) rfl
theorem mw4_84 : Cond.methodLink RX4 84 yX4_readSum ∈ BIG := bg3 62 (by decide +kernel) rfl
theorem l4_84 : LkV RX4 84 4 yX4_readSum cX4_readSum 1 ((some .boolean)) 0 := ⟨mw4_84, knyX4_readSum, ksyX4_readSum, kiyX4_readSum, kyX4_readSum, ⟨_, rfl, rfl⟩, rfl, by decide +kernel, by decide +kernel, by decide +kernel⟩
/-- RoundedSums$Reader.readSum -/
theorem v4_84 {E : Ev} {cc : ByteArray} {nL : Nat} {ret : Option FieldType} {R : Room} {cl sl : Nat} {Z : Zt} {pc : Nat} {L st : List Vv} {M : Mm} {N : Nn} {a b : Nat}  {h : Nat} {P : Int → Mm → Nn → Prop} (hd : decode cc pc = .ok (.invokevirtual 84, 3)) (hct : Nat.ble (ctL st) 8 = true) (hR : Nat.ble (h + 1) R.frames = true ∧ Nat.ble (8 + (1 + 11) + 40 * h) R.locals = true) (hcl : Nat.ble cl R.cells = true ∧ Nat.ble sl R.slots = true) (hc : Ct E yX4_readSum cX4_readSum 1 ((some .boolean)) (rmH h) [vr (6, a, b)] M N (qi P)) (k : ∀ r M1 N1, R32 r → P r M1 N1 → Go E RX4 cc nL ret R cl sl Z (pc + 3) L (vi r :: st) M1 N1) : Go E RX4 cc nL ret R cl sl Z (pc) L (vr (6, a, b) :: st) M N := go_callV (As := []) hd l4_84 rfl rfl rfl hct ⟨rfl, rfl⟩ ⟨Nat.le_of_ble_eq_true hR.1, Nat.le_of_ble_eq_true hR.2⟩ hc hcl (fun r M1 N1 h => by obtain ⟨z, rfl, h1, h⟩ := h; exact k z M1 N1 h1 h)
theorem kyX4_readGrid : Cond.code yX4_readGrid cX4_readGrid 3 ((some .boolean)) ∈ BIG := bg3 69 (rfl) rfl
theorem kiyX4_readGrid : Cond.initialized yX4_readGrid.cls ∈ BIG := bg1 2 (by decide +kernel) rfl
theorem knyX4_readGrid : Cond.instanceMethod yX4_readGrid ∈ BIG := bg3 68 (by decide +kernel) rfl
theorem ksyX4_readGrid : Cond.selects yX4_readGrid.cls yX4_readGrid yX4_readGrid ∈ BIG := bgp (q := (yX4_readGrid, 13)) (List.mem_of_getElem? (i := 20) (by decide +kernel)) rfl
theorem mw4_87 : Cond.methodLink RX4 87 yX4_readGrid ∈ BIG := bg3 66 (by decide +kernel) rfl
theorem l4_87 : LkV RX4 87 4 yX4_readGrid cX4_readGrid 3 ((some .boolean)) 1 := ⟨mw4_87, knyX4_readGrid, ksyX4_readGrid, kiyX4_readGrid, kyX4_readGrid, ⟨_, rfl, rfl⟩, rfl, by decide +kernel, by decide +kernel, by decide +kernel⟩
/-- RoundedSums$Reader.readGrid -/
theorem v4_87 {E : Ev} {cc : ByteArray} {nL : Nat} {ret : Option FieldType} {R : Room} {cl sl : Nat} {Z : Zt} {pc : Nat} {L st : List Vv} {M : Mm} {N : Nn} {a b : Nat} {x0 : Int} {h : Nat} {P : Int → Mm → Nn → Prop} (hd : decode cc pc = .ok (.invokevirtual 87, 3)) (hct : Nat.ble (ctL st) 8 = true) (hR : Nat.ble (h + 1) R.frames = true ∧ Nat.ble (8 + (3 + 11) + 40 * h) R.locals = true) (hcl : Nat.ble cl R.cells = true ∧ Nat.ble sl R.slots = true) (hc : Ct E yX4_readGrid cX4_readGrid 3 ((some .boolean)) (rmH h) [vr (6, a, b), vi x0] M N (qi P)) (k : ∀ r M1 N1, R32 r → P r M1 N1 → Go E RX4 cc nL ret R cl sl Z (pc + 3) L (vi r :: st) M1 N1) : Go E RX4 cc nL ret R cl sl Z (pc) L (vi x0 :: vr (6, a, b) :: st) M N := go_callV (As := [vi x0]) hd l4_87 rfl rfl rfl hct ⟨rfl, rfl⟩ ⟨Nat.le_of_ble_eq_true hR.1, Nat.le_of_ble_eq_true hR.2⟩ hc hcl (fun r M1 N1 h => by obtain ⟨z, rfl, h1, h⟩ := h; exact k z M1 N1 h1 h)
theorem kyX4_skipWord : Cond.code yX4_skipWord cX4_skipWord 2 ((some .boolean)) ∈ BIG := bg2 223 (rfl) rfl
theorem kiyX4_skipWord : Cond.initialized yX4_skipWord.cls ∈ BIG := bg1 2 (by decide +kernel) rfl
theorem knyX4_skipWord : Cond.instanceMethod yX4_skipWord ∈ BIG := bg2 222 (by decide +kernel) rfl
theorem ksyX4_skipWord : Cond.selects yX4_skipWord.cls yX4_skipWord yX4_skipWord ∈ BIG := bgp (q := (yX4_skipWord, 13)) (List.mem_of_getElem? (i := 10) (by decide +kernel)) rfl
theorem mw4_93 : Cond.methodLink RX4 93 yX4_skipWord ∈ BIG := bg2 220 (by decide +kernel) rfl
theorem l4_93 : LkV RX4 93 4 yX4_skipWord cX4_skipWord 2 ((some .boolean)) 1 := ⟨mw4_93, knyX4_skipWord, ksyX4_skipWord, kiyX4_skipWord, kyX4_skipWord, ⟨_, rfl, rfl⟩, rfl, by decide +kernel, by decide +kernel, by decide +kernel⟩
/-- RoundedSums$Reader.skipWord -/
theorem v4_93 {E : Ev} {cc : ByteArray} {nL : Nat} {ret : Option FieldType} {R : Room} {cl sl : Nat} {Z : Zt} {pc : Nat} {L st : List Vv} {M : Mm} {N : Nn} {a b : Nat} {x0 : Nm} {h : Nat} {P : Int → Mm → Nn → Prop} (hd : decode cc pc = .ok (.invokevirtual 93, 3)) (hct : Nat.ble (ctL st) 8 = true) (hR : Nat.ble (h + 1) R.frames = true ∧ Nat.ble (8 + (2 + 11) + 40 * h) R.locals = true) (hcl : Nat.ble cl R.cells = true ∧ Nat.ble sl R.slots = true) (hc : Ct E yX4_skipWord cX4_skipWord 2 ((some .boolean)) (rmH h) [vr (6, a, b), vr x0] M N (qi P)) (k : ∀ r M1 N1, R32 r → P r M1 N1 → Go E RX4 cc nL ret R cl sl Z (pc + 3) L (vi r :: st) M1 N1) : Go E RX4 cc nL ret R cl sl Z (pc) L (vr x0 :: vr (6, a, b) :: st) M N := go_callV (As := [vr x0]) hd l4_93 rfl rfl rfl hct ⟨rfl, rfl⟩ ⟨Nat.le_of_ble_eq_true hR.1, Nat.le_of_ble_eq_true hR.2⟩ hc hcl (fun r M1 N1 h => by obtain ⟨z, rfl, h1, h⟩ := h; exact k z M1 N1 h1 h)
theorem kyX4_readNumber : Cond.code yX4_readNumber cX4_readNumber 2 ((some .boolean)) ∈ BIG := bg2 227 (rfl) rfl
theorem kiyX4_readNumber : Cond.initialized yX4_readNumber.cls ∈ BIG := bg1 2 (by decide +kernel) rfl
theorem knyX4_readNumber : Cond.instanceMethod yX4_readNumber ∈ BIG := bg2 226 (by decide +kernel) rfl
theorem ksyX4_readNumber : Cond.selects yX4_readNumber.cls yX4_readNumber yX4_readNumber ∈ BIG := bgp (q := (yX4_readNumber, 13)) (List.mem_of_getElem? (i := 11) (by decide +kernel)) rfl
theorem mw4_96 : Cond.methodLink RX4 96 yX4_readNumber ∈ BIG := bg2 224 (by decide +kernel) rfl
theorem l4_96 : LkV RX4 96 4 yX4_readNumber cX4_readNumber 2 ((some .boolean)) 0 := ⟨mw4_96, knyX4_readNumber, ksyX4_readNumber, kiyX4_readNumber, kyX4_readNumber, ⟨_, rfl, rfl⟩, rfl, by decide +kernel, by decide +kernel, by decide +kernel⟩
/-- RoundedSums$Reader.readNumber -/
theorem v4_96 {E : Ev} {cc : ByteArray} {nL : Nat} {ret : Option FieldType} {R : Room} {cl sl : Nat} {Z : Zt} {pc : Nat} {L st : List Vv} {M : Mm} {N : Nn} {a b : Nat}  {h : Nat} {P : Int → Mm → Nn → Prop} (hd : decode cc pc = .ok (.invokevirtual 96, 3)) (hct : Nat.ble (ctL st) 8 = true) (hR : Nat.ble (h + 1) R.frames = true ∧ Nat.ble (8 + (2 + 11) + 40 * h) R.locals = true) (hcl : Nat.ble cl R.cells = true ∧ Nat.ble sl R.slots = true) (hc : Ct E yX4_readNumber cX4_readNumber 2 ((some .boolean)) (rmH h) [vr (6, a, b)] M N (qi P)) (k : ∀ r M1 N1, R32 r → P r M1 N1 → Go E RX4 cc nL ret R cl sl Z (pc + 3) L (vi r :: st) M1 N1) : Go E RX4 cc nL ret R cl sl Z (pc) L (vr (6, a, b) :: st) M N := go_callV (As := []) hd l4_96 rfl rfl rfl hct ⟨rfl, rfl⟩ ⟨Nat.le_of_ble_eq_true hR.1, Nat.le_of_ble_eq_true hR.2⟩ hc hcl (fun r M1 N1 h => by obtain ⟨z, rfl, h1, h⟩ := h; exact k z M1 N1 h1 h)
theorem kyX3_tellInput : Cond.code yX3_tellInput cX3_tellInput 5 (none) ∈ BIG := bg2 238 (rfl) rfl
theorem kiyX3_tellInput : Cond.initialized yX3_tellInput.cls ∈ BIG := bg1 6 (by decide +kernel) rfl
theorem knyX3_tellInput : Cond.instanceMethod yX3_tellInput ∈ BIG := bg2 236 (by decide +kernel) rfl
theorem ksyX3_tellInput : Cond.selects yX3_tellInput.cls yX3_tellInput yX3_tellInput ∈ BIG := bg2 237 (by decide +kernel) rfl
theorem mw4_113 : Cond.methodLink RX4 113 yX3_tellInput ∈ BIG := bg2 235 (by decide +kernel) rfl
theorem l4_113 : LkV RX4 113 3 yX3_tellInput cX3_tellInput 5 (none) 3 := ⟨mw4_113, knyX3_tellInput, ksyX3_tellInput, kiyX3_tellInput, kyX3_tellInput, ⟨_, rfl, rfl⟩, rfl, by decide +kernel, by decide +kernel, by decide +kernel⟩
/-- RoundedSums$Program.tellInput -/
theorem v4_113 {E : Ev} {cc : ByteArray} {nL : Nat} {ret : Option FieldType} {R : Room} {cl sl : Nat} {Z : Zt} {pc : Nat} {L st : List Vv} {M : Mm} {N : Nn} {a b : Nat} {x0 : Int} {x1 : Int} {x2 : Int} {h : Nat} {P : Mm → Nn → Prop} (hd : decode cc pc = .ok (.invokevirtual 113, 3)) (hct : Nat.ble (ctL st) 8 = true) (hR : Nat.ble (h + 1) R.frames = true ∧ Nat.ble (8 + (5 + 11) + 40 * h) R.locals = true) (hcl : Nat.ble cl R.cells = true ∧ Nat.ble sl R.slots = true) (hc : Ct E yX3_tellInput cX3_tellInput 5 (none) (rmH h) [vr (18, a, b), vi x0, vi x1, vi x2] M N (qv P)) (k : ∀ M1 N1, P M1 N1 → Go E RX4 cc nL ret R cl sl Z (pc + 3) L (st) M1 N1) : Go E RX4 cc nL ret R cl sl Z (pc) L (vi x2 :: vi x1 :: vi x0 :: vr (18, a, b) :: st) M N := go_callV (As := [vi x0, vi x1, vi x2]) hd l4_113 rfl rfl rfl hct ⟨rfl, rfl⟩ ⟨Nat.le_of_ble_eq_true hR.1, Nat.le_of_ble_eq_true hR.2⟩ hc hcl (fun r M1 N1 h => by obtain ⟨rfl, h⟩ := h; exact k M1 N1 h)
theorem kyX4_readOperand : Cond.code yX4_readOperand cX4_readOperand 3 ((some .boolean)) ∈ BIG := bg3 57 (rfl) rfl
theorem kiyX4_readOperand : Cond.initialized yX4_readOperand.cls ∈ BIG := bg1 2 (by decide +kernel) rfl
theorem knyX4_readOperand : Cond.instanceMethod yX4_readOperand ∈ BIG := bg3 56 (by decide +kernel) rfl
theorem ksyX4_readOperand : Cond.selects yX4_readOperand.cls yX4_readOperand yX4_readOperand ∈ BIG := bgp (q := (yX4_readOperand, 13)) (List.mem_of_getElem? (i := 18) (by decide +kernel)) rfl
theorem mw4_120 : Cond.methodLink RX4 120 yX4_readOperand ∈ BIG := bg3 54 (by decide +kernel) rfl
theorem l4_120 : LkV RX4 120 4 yX4_readOperand cX4_readOperand 3 ((some .boolean)) 1 := ⟨mw4_120, knyX4_readOperand, ksyX4_readOperand, kiyX4_readOperand, kyX4_readOperand, ⟨_, rfl, rfl⟩, rfl, by decide +kernel, by decide +kernel, by decide +kernel⟩
/-- RoundedSums$Reader.readOperand -/
theorem v4_120 {E : Ev} {cc : ByteArray} {nL : Nat} {ret : Option FieldType} {R : Room} {cl sl : Nat} {Z : Zt} {pc : Nat} {L st : List Vv} {M : Mm} {N : Nn} {a b : Nat} {x0 : Int} {h : Nat} {P : Int → Mm → Nn → Prop} (hd : decode cc pc = .ok (.invokevirtual 120, 3)) (hct : Nat.ble (ctL st) 8 = true) (hR : Nat.ble (h + 1) R.frames = true ∧ Nat.ble (8 + (3 + 11) + 40 * h) R.locals = true) (hcl : Nat.ble cl R.cells = true ∧ Nat.ble sl R.slots = true) (hc : Ct E yX4_readOperand cX4_readOperand 3 ((some .boolean)) (rmH h) [vr (6, a, b), vi x0] M N (qi P)) (k : ∀ r M1 N1, R32 r → P r M1 N1 → Go E RX4 cc nL ret R cl sl Z (pc + 3) L (vi r :: st) M1 N1) : Go E RX4 cc nL ret R cl sl Z (pc) L (vi x0 :: vr (6, a, b) :: st) M N := go_callV (As := [vi x0]) hd l4_120 rfl rfl rfl hct ⟨rfl, rfl⟩ ⟨Nat.le_of_ble_eq_true hR.1, Nat.le_of_ble_eq_true hR.2⟩ hc hcl (fun r M1 N1 h => by obtain ⟨z, rfl, h1, h⟩ := h; exact k z M1 N1 h1 h)
theorem kyX3_tellStep : Cond.code yX3_tellStep cX3_tellStep 5 ((some .boolean)) ∈ BIG := bg3 73 (rfl) rfl
theorem kiyX3_tellStep : Cond.initialized yX3_tellStep.cls ∈ BIG := bg1 6 (by decide +kernel) rfl
theorem knyX3_tellStep : Cond.instanceMethod yX3_tellStep ∈ BIG := bg3 71 (by decide +kernel) rfl
theorem ksyX3_tellStep : Cond.selects yX3_tellStep.cls yX3_tellStep yX3_tellStep ∈ BIG := bg3 72 (by decide +kernel) rfl
theorem mw4_132 : Cond.methodLink RX4 132 yX3_tellStep ∈ BIG := bg3 70 (by decide +kernel) rfl
theorem l4_132 : LkV RX4 132 3 yX3_tellStep cX3_tellStep 5 ((some .boolean)) 3 := ⟨mw4_132, knyX3_tellStep, ksyX3_tellStep, kiyX3_tellStep, kyX3_tellStep, ⟨_, rfl, rfl⟩, rfl, by decide +kernel, by decide +kernel, by decide +kernel⟩
/-- RoundedSums$Program.tellStep -/
theorem v4_132 {E : Ev} {cc : ByteArray} {nL : Nat} {ret : Option FieldType} {R : Room} {cl sl : Nat} {Z : Zt} {pc : Nat} {L st : List Vv} {M : Mm} {N : Nn} {a b : Nat} {x0 : Int} {x1 : Int} {x2 : Int} {h : Nat} {P : Int → Mm → Nn → Prop} (hd : decode cc pc = .ok (.invokevirtual 132, 3)) (hct : Nat.ble (ctL st) 8 = true) (hR : Nat.ble (h + 1) R.frames = true ∧ Nat.ble (8 + (5 + 11) + 40 * h) R.locals = true) (hcl : Nat.ble cl R.cells = true ∧ Nat.ble sl R.slots = true) (hc : Ct E yX3_tellStep cX3_tellStep 5 ((some .boolean)) (rmH h) [vr (18, a, b), vi x0, vi x1, vi x2] M N (qi P)) (k : ∀ r M1 N1, R32 r → P r M1 N1 → Go E RX4 cc nL ret R cl sl Z (pc + 3) L (vi r :: st) M1 N1) : Go E RX4 cc nL ret R cl sl Z (pc) L (vi x2 :: vi x1 :: vi x0 :: vr (18, a, b) :: st) M N := go_callV (As := [vi x0, vi x1, vi x2]) hd l4_132 rfl rfl rfl hct ⟨rfl, rfl⟩ ⟨Nat.le_of_ble_eq_true hR.1, Nat.le_of_ble_eq_true hR.2⟩ hc hcl (fun r M1 N1 h => by obtain ⟨z, rfl, h1, h⟩ := h; exact k z M1 N1 h1 h)
theorem kyX4_seesName : Cond.code yX4_seesName cX4_seesName 1 ((some .boolean)) ∈ BIG := bg2 208 (rfl) rfl
theorem kiyX4_seesName : Cond.initialized yX4_seesName.cls ∈ BIG := bg1 2 (by decide +kernel) rfl
theorem knyX4_seesName : Cond.instanceMethod yX4_seesName ∈ BIG := bg2 207 (by decide +kernel) rfl
theorem ksyX4_seesName : Cond.selects yX4_seesName.cls yX4_seesName yX4_seesName ∈ BIG := bgp (q := (yX4_seesName, 13)) (List.mem_of_getElem? (i := 9) (by decide +kernel)) rfl
theorem mw4_136 : Cond.methodLink RX4 136 yX4_seesName ∈ BIG := bg2 205 (by decide +kernel) rfl
theorem l4_136 : LkV RX4 136 4 yX4_seesName cX4_seesName 1 ((some .boolean)) 0 := ⟨mw4_136, knyX4_seesName, ksyX4_seesName, kiyX4_seesName, kyX4_seesName, ⟨_, rfl, rfl⟩, rfl, by decide +kernel, by decide +kernel, by decide +kernel⟩
/-- RoundedSums$Reader.seesName -/
theorem v4_136 {E : Ev} {cc : ByteArray} {nL : Nat} {ret : Option FieldType} {R : Room} {cl sl : Nat} {Z : Zt} {pc : Nat} {L st : List Vv} {M : Mm} {N : Nn} {a b : Nat}  {h : Nat} {P : Int → Mm → Nn → Prop} (hd : decode cc pc = .ok (.invokevirtual 136, 3)) (hct : Nat.ble (ctL st) 8 = true) (hR : Nat.ble (h + 1) R.frames = true ∧ Nat.ble (8 + (1 + 11) + 40 * h) R.locals = true) (hcl : Nat.ble cl R.cells = true ∧ Nat.ble sl R.slots = true) (hc : Ct E yX4_seesName cX4_seesName 1 ((some .boolean)) (rmH h) [vr (6, a, b)] M N (qi P)) (k : ∀ r M1 N1, R32 r → P r M1 N1 → Go E RX4 cc nL ret R cl sl Z (pc + 3) L (vi r :: st) M1 N1) : Go E RX4 cc nL ret R cl sl Z (pc) L (vr (6, a, b) :: st) M N := go_callV (As := []) hd l4_136 rfl rfl rfl hct ⟨rfl, rfl⟩ ⟨Nat.le_of_ble_eq_true hR.1, Nat.le_of_ble_eq_true hR.2⟩ hc hcl (fun r M1 N1 h => by obtain ⟨z, rfl, h1, h⟩ := h; exact k z M1 N1 h1 h)
theorem kyX3_named : Cond.code yX3_named cX3_named 3 ((some .int)) ∈ BIG := bg2 219 (rfl) rfl
theorem kiyX3_named : Cond.initialized yX3_named.cls ∈ BIG := bg1 6 (by decide +kernel) rfl
theorem knyX3_named : Cond.instanceMethod yX3_named ∈ BIG := bg2 217 (by decide +kernel) rfl
theorem ksyX3_named : Cond.selects yX3_named.cls yX3_named yX3_named ∈ BIG := bg2 218 (by decide +kernel) rfl
theorem mw4_139 : Cond.methodLink RX4 139 yX3_named ∈ BIG := bg2 216 (by decide +kernel) rfl
theorem l4_139 : LkV RX4 139 3 yX3_named cX3_named 3 ((some .int)) 1 := ⟨mw4_139, knyX3_named, ksyX3_named, kiyX3_named, kyX3_named, ⟨_, rfl, rfl⟩, rfl, by decide +kernel, by decide +kernel, by decide +kernel⟩
/-- RoundedSums$Program.named -/
theorem v4_139 {E : Ev} {cc : ByteArray} {nL : Nat} {ret : Option FieldType} {R : Room} {cl sl : Nat} {Z : Zt} {pc : Nat} {L st : List Vv} {M : Mm} {N : Nn} {a b : Nat} {x0 : Int} {h : Nat} {P : Int → Mm → Nn → Prop} (hd : decode cc pc = .ok (.invokevirtual 139, 3)) (hct : Nat.ble (ctL st) 8 = true) (hR : Nat.ble (h + 1) R.frames = true ∧ Nat.ble (8 + (3 + 11) + 40 * h) R.locals = true) (hcl : Nat.ble cl R.cells = true ∧ Nat.ble sl R.slots = true) (hc : Ct E yX3_named cX3_named 3 ((some .int)) (rmH h) [vr (18, a, b), vi x0] M N (qi P)) (k : ∀ r M1 N1, R32 r → P r M1 N1 → Go E RX4 cc nL ret R cl sl Z (pc + 3) L (vi r :: st) M1 N1) : Go E RX4 cc nL ret R cl sl Z (pc) L (vi x0 :: vr (18, a, b) :: st) M N := go_callV (As := [vi x0]) hd l4_139 rfl rfl rfl hct ⟨rfl, rfl⟩ ⟨Nat.le_of_ble_eq_true hR.1, Nat.le_of_ble_eq_true hR.2⟩ hc hcl (fun r M1 N1 h => by obtain ⟨z, rfl, h1, h⟩ := h; exact k z M1 N1 h1 h)
theorem kyX3_tellOperand : Cond.code yX3_tellOperand cX3_tellOperand 4 (none) ∈ BIG := bg3 61 (rfl) rfl
theorem kiyX3_tellOperand : Cond.initialized yX3_tellOperand.cls ∈ BIG := bg1 6 (by decide +kernel) rfl
theorem knyX3_tellOperand : Cond.instanceMethod yX3_tellOperand ∈ BIG := bg3 59 (by decide +kernel) rfl
theorem ksyX3_tellOperand : Cond.selects yX3_tellOperand.cls yX3_tellOperand yX3_tellOperand ∈ BIG := bg3 60 (by decide +kernel) rfl
theorem mw4_143 : Cond.methodLink RX4 143 yX3_tellOperand ∈ BIG := bg3 58 (by decide +kernel) rfl
theorem l4_143 : LkV RX4 143 3 yX3_tellOperand cX3_tellOperand 4 (none) 3 := ⟨mw4_143, knyX3_tellOperand, ksyX3_tellOperand, kiyX3_tellOperand, kyX3_tellOperand, ⟨_, rfl, rfl⟩, rfl, by decide +kernel, by decide +kernel, by decide +kernel⟩
/-- RoundedSums$Program.tellOperand -/
theorem v4_143 {E : Ev} {cc : ByteArray} {nL : Nat} {ret : Option FieldType} {R : Room} {cl sl : Nat} {Z : Zt} {pc : Nat} {L st : List Vv} {M : Mm} {N : Nn} {a b : Nat} {x0 : Int} {x1 : Int} {x2 : Int} {h : Nat} {P : Mm → Nn → Prop} (hd : decode cc pc = .ok (.invokevirtual 143, 3)) (hct : Nat.ble (ctL st) 8 = true) (hR : Nat.ble (h + 1) R.frames = true ∧ Nat.ble (8 + (4 + 11) + 40 * h) R.locals = true) (hcl : Nat.ble cl R.cells = true ∧ Nat.ble sl R.slots = true) (hc : Ct E yX3_tellOperand cX3_tellOperand 4 (none) (rmH h) [vr (18, a, b), vi x0, vi x1, vi x2] M N (qv P)) (k : ∀ M1 N1, P M1 N1 → Go E RX4 cc nL ret R cl sl Z (pc + 3) L (st) M1 N1) : Go E RX4 cc nL ret R cl sl Z (pc) L (vi x2 :: vi x1 :: vi x0 :: vr (18, a, b) :: st) M N := go_callV (As := [vi x0, vi x1, vi x2]) hd l4_143 rfl rfl rfl hct ⟨rfl, rfl⟩ ⟨Nat.le_of_ble_eq_true hR.1, Nat.le_of_ble_eq_true hR.2⟩ hc hcl (fun r M1 N1 h => by obtain ⟨rfl, h⟩ := h; exact k M1 N1 h)
theorem kyJ0_length_8abf5 : Cond.code yJ0_length_8abf5 cJ0_length_8abf5 1 ((some .int)) ∈ BIG := bg2 148 (rfl) rfl
theorem kiyJ0_length_8abf5 : Cond.initialized yJ0_length_8abf5.cls ∈ BIG := bg1 10 (by decide +kernel) rfl
theorem knyJ0_length_8abf5 : Cond.instanceMethod yJ0_length_8abf5 ∈ BIG := bg2 146 (by decide +kernel) rfl
theorem ksyJ0_length_8abf5 : Cond.selects yJ0_length_8abf5.cls yJ0_length_8abf5 yJ0_length_8abf5 ∈ BIG := bg2 147 (by decide +kernel) rfl
theorem mw4_149 : Cond.methodLink RX4 149 yJ0_length_8abf5 ∈ BIG := bg2 145 (by decide +kernel) rfl
theorem kyJ0_charAt_5068e : Cond.code yJ0_charAt_5068e cJ0_charAt_5068e 2 ((some .char)) ∈ BIG := bg2 158 (rfl) rfl
theorem kiyJ0_charAt_5068e : Cond.initialized yJ0_charAt_5068e.cls ∈ BIG := bg1 10 (by decide +kernel) rfl
theorem knyJ0_charAt_5068e : Cond.instanceMethod yJ0_charAt_5068e ∈ BIG := bg2 156 (by decide +kernel) rfl
theorem ksyJ0_charAt_5068e : Cond.selects yJ0_charAt_5068e.cls yJ0_charAt_5068e yJ0_charAt_5068e ∈ BIG := bg2 157 (by decide +kernel) rfl
theorem mw4_154 : Cond.methodLink RX4 154 yJ0_charAt_5068e ∈ BIG := bg2 155 (by decide +kernel) rfl
theorem kyX4_takeRun : Cond.code yX4_takeRun cX4_takeRun 5 (none) ∈ BIG := bg2 132 (rfl) rfl
theorem kiyX4_takeRun : Cond.initialized yX4_takeRun.cls ∈ BIG := bg1 2 (by decide +kernel) rfl
theorem knyX4_takeRun : Cond.instanceMethod yX4_takeRun ∈ BIG := bg2 131 (by decide +kernel) rfl
theorem ksyX4_takeRun : Cond.selects yX4_takeRun.cls yX4_takeRun yX4_takeRun ∈ BIG := bgp (q := (yX4_takeRun, 13)) (List.mem_of_getElem? (i := 3) (by decide +kernel)) rfl
theorem mw4_158 : Cond.methodLink RX4 158 yX4_takeRun ∈ BIG := bg2 129 (by decide +kernel) rfl
theorem l4_158 : LkV RX4 158 4 yX4_takeRun cX4_takeRun 5 (none) 4 := ⟨mw4_158, knyX4_takeRun, ksyX4_takeRun, kiyX4_takeRun, kyX4_takeRun, ⟨_, rfl, rfl⟩, rfl, by decide +kernel, by decide +kernel, by decide +kernel⟩
/-- RoundedSums$Reader.takeRun -/
theorem v4_158 {E : Ev} {cc : ByteArray} {nL : Nat} {ret : Option FieldType} {R : Room} {cl sl : Nat} {Z : Zt} {pc : Nat} {L st : List Vv} {M : Mm} {N : Nn} {a b : Nat} {x0 : Int} {x1 : Int} {x2 : Int} {x3 : Int} {h : Nat} {P : Mm → Nn → Prop} (hd : decode cc pc = .ok (.invokevirtual 158, 3)) (hct : Nat.ble (ctL st) 8 = true) (hR : Nat.ble (h + 1) R.frames = true ∧ Nat.ble (8 + (5 + 11) + 40 * h) R.locals = true) (hcl : Nat.ble cl R.cells = true ∧ Nat.ble sl R.slots = true) (hc : Ct E yX4_takeRun cX4_takeRun 5 (none) (rmH h) [vr (6, a, b), vi x0, vi x1, vi x2, vi x3] M N (qv P)) (k : ∀ M1 N1, P M1 N1 → Go E RX4 cc nL ret R cl sl Z (pc + 3) L (st) M1 N1) : Go E RX4 cc nL ret R cl sl Z (pc) L (vi x3 :: vi x2 :: vi x1 :: vi x0 :: vr (6, a, b) :: st) M N := go_callV (As := [vi x0, vi x1, vi x2, vi x3]) hd l4_158 rfl rfl rfl hct ⟨rfl, rfl⟩ ⟨Nat.le_of_ble_eq_true hR.1, Nat.le_of_ble_eq_true hR.2⟩ hc hcl (fun r M1 N1 h => by obtain ⟨rfl, h⟩ := h; exact k M1 N1 h)
theorem kyX4_isSingle : Cond.code yX4_isSingle cX4_isSingle 1 ((some .boolean)) ∈ BIG := bg2 135 (rfl) rfl
theorem kiyX4_isSingle : Cond.initialized yX4_isSingle.cls ∈ BIG := bg1 2 (by decide +kernel) rfl
theorem ktyX4_isSingle : Cond.static yX4_isSingle ∈ BIG := bg2 134 (by decide +kernel) rfl
theorem mw4_162 : Cond.methodLink RX4 162 yX4_isSingle ∈ BIG := bg2 133 (by decide +kernel) rfl
theorem l4_162 : LkS RX4 162 yX4_isSingle cX4_isSingle 1 ((some .boolean)) 1 := ⟨mw4_162, ktyX4_isSingle, kiyX4_isSingle, kyX4_isSingle, by decide +kernel, by decide +kernel, by decide +kernel⟩
/-- RoundedSums$Reader.isSingle -/
theorem v4_162 {E : Ev} {cc : ByteArray} {nL : Nat} {ret : Option FieldType} {R : Room} {cl sl : Nat} {Z : Zt} {pc : Nat} {L st : List Vv} {M : Mm} {N : Nn} {x0 : Int} {h : Nat} {P : Int → Mm → Nn → Prop} (hd : decode cc pc = .ok (.invokestatic 162, 3)) (hct : Nat.ble (ctL st) 8 = true) (hR : Nat.ble (h + 1) R.frames = true ∧ Nat.ble (8 + (1 + 11) + 40 * h) R.locals = true) (hcl : Nat.ble cl R.cells = true ∧ Nat.ble sl R.slots = true) (hc : Ct E yX4_isSingle cX4_isSingle 1 ((some .boolean)) (rmH h) [vi x0] M N (qi P)) (k : ∀ r M1 N1, R32 r → P r M1 N1 → Go E RX4 cc nL ret R cl sl Z (pc + 3) L (vi r :: st) M1 N1) : Go E RX4 cc nL ret R cl sl Z (pc) L (vi x0 :: st) M N := go_callS (As := [vi x0]) hd l4_162 rfl rfl hct ⟨rfl, rfl⟩ ⟨Nat.le_of_ble_eq_true hR.1, Nat.le_of_ble_eq_true hR.2⟩ hc hcl (fun r M1 N1 h => by obtain ⟨z, rfl, h1, h⟩ := h; exact k z M1 N1 h1 h)
theorem kyX3_needs : Cond.code yX3_needs cX3_needs 3 ((some .boolean)) ∈ BIG := bg3 234 (rfl) rfl
theorem kiyX3_needs : Cond.initialized yX3_needs.cls ∈ BIG := bg1 6 (by decide +kernel) rfl
theorem knyX3_needs : Cond.instanceMethod yX3_needs ∈ BIG := bg3 232 (by decide +kernel) rfl
theorem ksyX3_needs : Cond.selects yX3_needs.cls yX3_needs yX3_needs ∈ BIG := bg3 233 (by decide +kernel) rfl
theorem mw5_18 : Cond.methodLink RX5 18 yX3_needs ∈ BIG := bg3 231 (by decide +kernel) rfl
theorem l5_18 : LkV RX5 18 3 yX3_needs cX3_needs 3 ((some .boolean)) 2 := ⟨mw5_18, knyX3_needs, ksyX3_needs, kiyX3_needs, kyX3_needs, ⟨_, rfl, rfl⟩, rfl, by decide +kernel, by decide +kernel, by decide +kernel⟩
/-- RoundedSums$Program.needs -/
theorem v5_18 {E : Ev} {cc : ByteArray} {nL : Nat} {ret : Option FieldType} {R : Room} {cl sl : Nat} {Z : Zt} {pc : Nat} {L st : List Vv} {M : Mm} {N : Nn} {a b : Nat} {x0 : Int} {x1 : Int} {h : Nat} {P : Int → Mm → Nn → Prop} (hd : decode cc pc = .ok (.invokevirtual 18, 3)) (hct : Nat.ble (ctL st) 8 = true) (hR : Nat.ble (h + 1) R.frames = true ∧ Nat.ble (8 + (3 + 11) + 40 * h) R.locals = true) (hcl : Nat.ble cl R.cells = true ∧ Nat.ble sl R.slots = true) (hc : Ct E yX3_needs cX3_needs 3 ((some .boolean)) (rmH h) [vr (18, a, b), vi x0, vi x1] M N (qi P)) (k : ∀ r M1 N1, R32 r → P r M1 N1 → Go E RX5 cc nL ret R cl sl Z (pc + 3) L (vi r :: st) M1 N1) : Go E RX5 cc nL ret R cl sl Z (pc) L (vi x1 :: vi x0 :: vr (18, a, b) :: st) M N := go_callV (As := [vi x0, vi x1]) hd l5_18 rfl rfl rfl hct ⟨rfl, rfl⟩ ⟨Nat.le_of_ble_eq_true hR.1, Nat.le_of_ble_eq_true hR.2⟩ hc hcl (fun r M1 N1 h => by obtain ⟨z, rfl, h1, h⟩ := h; exact k z M1 N1 h1 h)
theorem kyX5_unrounded : Cond.code yX5_unrounded cX5_unrounded 7 ((some .long)) ∈ BIG := bg3 237 (rfl) rfl
theorem kiyX5_unrounded : Cond.initialized yX5_unrounded.cls ∈ BIG := bg1 8 (by decide +kernel) rfl
theorem ktyX5_unrounded : Cond.static yX5_unrounded ∈ BIG := bg3 236 (by decide +kernel) rfl
theorem mw5_28 : Cond.methodLink RX5 28 yX5_unrounded ∈ BIG := bg3 235 (by decide +kernel) rfl
theorem l5_28 : LkS RX5 28 yX5_unrounded cX5_unrounded 7 ((some .long)) 3 := ⟨mw5_28, ktyX5_unrounded, kiyX5_unrounded, kyX5_unrounded, by decide +kernel, by decide +kernel, by decide +kernel⟩
/-- RoundedSums$Run.unrounded -/
theorem v5_28 {E : Ev} {cc : ByteArray} {nL : Nat} {ret : Option FieldType} {R : Room} {cl sl : Nat} {Z : Zt} {pc : Nat} {L st : List Vv} {M : Mm} {N : Nn} {x0 : Nm} {x1 : Int} {x2 : Nm} {h : Nat} {P : Int → Mm → Nn → Prop} (hd : decode cc pc = .ok (.invokestatic 28, 3)) (hct : Nat.ble (ctL st) 8 = true) (hR : Nat.ble (h + 1) R.frames = true ∧ Nat.ble (8 + (7 + 11) + 40 * h) R.locals = true) (hcl : Nat.ble cl R.cells = true ∧ Nat.ble sl R.slots = true) (hc : Ct E yX5_unrounded cX5_unrounded 7 ((some .long)) (rmH h) [vr x0, vi x1, vr x2] M N (ql P)) (k : ∀ r M1 N1, R64 r → P r M1 N1 → Go E RX5 cc nL ret R cl sl Z (pc + 3) L (vl r :: st) M1 N1) : Go E RX5 cc nL ret R cl sl Z (pc) L (vr x2 :: vi x1 :: vr x0 :: st) M N := go_callS (As := [vr x0, vi x1, vr x2]) hd l5_28 rfl rfl hct ⟨rfl, rfl⟩ ⟨Nat.le_of_ble_eq_true hR.1, Nat.le_of_ble_eq_true hR.2⟩ hc hcl (fun r M1 N1 h => by obtain ⟨z, rfl, h1, h⟩ := h; exact k z M1 N1 h1 h)
theorem kyX5_rounded : Cond.code yX5_rounded cX5_rounded 10 ((some .long)) ∈ BIG := bg4 4 (rfl) rfl
theorem kiyX5_rounded : Cond.initialized yX5_rounded.cls ∈ BIG := bg1 8 (by decide +kernel) rfl
theorem ktyX5_rounded : Cond.static yX5_rounded ∈ BIG := bg4 3 (by decide +kernel) rfl
theorem mw5_35 : Cond.methodLink RX5 35 yX5_rounded ∈ BIG := bg4 2 (by decide +kernel) rfl
theorem l5_35 : LkS RX5 35 yX5_rounded cX5_rounded 10 ((some .long)) 2 := ⟨mw5_35, ktyX5_rounded, kiyX5_rounded, kyX5_rounded, by decide +kernel, by decide +kernel, by decide +kernel⟩
/-- RoundedSums$Run.rounded -/
theorem v5_35 {E : Ev} {cc : ByteArray} {nL : Nat} {ret : Option FieldType} {R : Room} {cl sl : Nat} {Z : Zt} {pc : Nat} {L st : List Vv} {M : Mm} {N : Nn} {x0 : Int} {x1 : Int} {h : Nat} {P : Int → Mm → Nn → Prop} (hd : decode cc pc = .ok (.invokestatic 35, 3)) (hct : Nat.ble (ctL st) 8 = true) (hR : Nat.ble (h + 1) R.frames = true ∧ Nat.ble (8 + (10 + 11) + 40 * h) R.locals = true) (hcl : Nat.ble cl R.cells = true ∧ Nat.ble sl R.slots = true) (hc : Ct E yX5_rounded cX5_rounded 10 ((some .long)) (rmH h) [vl x0, vi x1] M N (ql P)) (k : ∀ r M1 N1, R64 r → P r M1 N1 → Go E RX5 cc nL ret R cl sl Z (pc + 3) L (vl r :: st) M1 N1) : Go E RX5 cc nL ret R cl sl Z (pc) L (vi x1 :: vl x0 :: st) M N := go_callS (As := [vl x0, vi x1]) hd l5_35 rfl rfl hct ⟨rfl, rfl⟩ ⟨Nat.le_of_ble_eq_true hR.1, Nat.le_of_ble_eq_true hR.2⟩ hc hcl (fun r M1 N1 h => by obtain ⟨z, rfl, h1, h⟩ := h; exact k z M1 N1 h1 h)
theorem mw5_39 : Cond.methodLink RX5 39 yJ9_abs_067f4 ∈ BIG := bg4 168 (by decide +kernel) rfl
theorem l5_39 : LkS RX5 39 yJ9_abs_067f4 cJ9_abs_067f4 2 ((some .long)) 1 := ⟨mw5_39, ktyJ9_abs_067f4, kiyJ9_abs_067f4, kyJ9_abs_067f4, by decide +kernel, by decide +kernel, by decide +kernel⟩
/-- java/lang/Math.abs -/
theorem v5_39 {E : Ev} {cc : ByteArray} {nL : Nat} {ret : Option FieldType} {R : Room} {cl sl : Nat} {Z : Zt} {pc : Nat} {L st : List Vv} {M : Mm} {N : Nn} {x0 : Int} {h : Nat} {P : Int → Mm → Nn → Prop} (hd : decode cc pc = .ok (.invokestatic 39, 3)) (hct : Nat.ble (ctL st) 8 = true) (hR : Nat.ble (h + 1) R.frames = true ∧ Nat.ble (8 + (2 + 11) + 40 * h) R.locals = true) (hcl : Nat.ble cl R.cells = true ∧ Nat.ble sl R.slots = true) (hc : Ct E yJ9_abs_067f4 cJ9_abs_067f4 2 ((some .long)) (rmH h) [vl x0] M N (ql P)) (k : ∀ r M1 N1, R64 r → P r M1 N1 → Go E RX5 cc nL ret R cl sl Z (pc + 3) L (vl r :: st) M1 N1) : Go E RX5 cc nL ret R cl sl Z (pc) L (vl x0 :: st) M N := go_callS (As := [vl x0]) hd l5_39 rfl rfl hct ⟨rfl, rfl⟩ ⟨Nat.le_of_ble_eq_true hR.1, Nat.le_of_ble_eq_true hR.2⟩ hc hcl (fun r M1 N1 h => by obtain ⟨z, rfl, h1, h⟩ := h; exact k z M1 N1 h1 h)
theorem kyX5_goesThen : Cond.code yX5_goesThen cX5_goesThen 3 ((some .boolean)) ∈ BIG := bg4 17 (rfl) rfl
theorem kiyX5_goesThen : Cond.initialized yX5_goesThen.cls ∈ BIG := bg1 8 (by decide +kernel) rfl
theorem ktyX5_goesThen : Cond.static yX5_goesThen ∈ BIG := bg4 16 (by decide +kernel) rfl
theorem mw5_45 : Cond.methodLink RX5 45 yX5_goesThen ∈ BIG := bg4 15 (by decide +kernel) rfl
theorem l5_45 : LkS RX5 45 yX5_goesThen cX5_goesThen 3 ((some .boolean)) 3 := ⟨mw5_45, ktyX5_goesThen, kiyX5_goesThen, kyX5_goesThen, by decide +kernel, by decide +kernel, by decide +kernel⟩
/-- RoundedSums$Run.goesThen -/
theorem v5_45 {E : Ev} {cc : ByteArray} {nL : Nat} {ret : Option FieldType} {R : Room} {cl sl : Nat} {Z : Zt} {pc : Nat} {L st : List Vv} {M : Mm} {N : Nn} {x0 : Nm} {x1 : Int} {x2 : Nm} {h : Nat} {P : Int → Mm → Nn → Prop} (hd : decode cc pc = .ok (.invokestatic 45, 3)) (hct : Nat.ble (ctL st) 8 = true) (hR : Nat.ble (h + 1) R.frames = true ∧ Nat.ble (8 + (3 + 11) + 40 * h) R.locals = true) (hcl : Nat.ble cl R.cells = true ∧ Nat.ble sl R.slots = true) (hc : Ct E yX5_goesThen cX5_goesThen 3 ((some .boolean)) (rmH h) [vr x0, vi x1, vr x2] M N (qi P)) (k : ∀ r M1 N1, R32 r → P r M1 N1 → Go E RX5 cc nL ret R cl sl Z (pc + 3) L (vi r :: st) M1 N1) : Go E RX5 cc nL ret R cl sl Z (pc) L (vr x2 :: vi x1 :: vr x0 :: st) M N := go_callS (As := [vr x0, vi x1, vr x2]) hd l5_45 rfl rfl hct ⟨rfl, rfl⟩ ⟨Nat.le_of_ble_eq_true hR.1, Nat.le_of_ble_eq_true hR.2⟩ hc hcl (fun r M1 N1 h => by obtain ⟨z, rfl, h1, h⟩ := h; exact k z M1 N1 h1 h)
theorem kyX3_operandIn : Cond.code yX3_operandIn cX3_operandIn 5 ((some .long)) ∈ BIG := bg4 1 (rfl) rfl
theorem kiyX3_operandIn : Cond.initialized yX3_operandIn.cls ∈ BIG := bg1 6 (by decide +kernel) rfl
theorem knyX3_operandIn : Cond.instanceMethod yX3_operandIn ∈ BIG := bg3 239 (by decide +kernel) rfl
theorem ksyX3_operandIn : Cond.selects yX3_operandIn.cls yX3_operandIn yX3_operandIn ∈ BIG := bg4 0 (by decide +kernel) rfl
theorem mw5_49 : Cond.methodLink RX5 49 yX3_operandIn ∈ BIG := bg3 238 (by decide +kernel) rfl
theorem l5_49 : LkV RX5 49 3 yX3_operandIn cX3_operandIn 5 ((some .long)) 3 := ⟨mw5_49, knyX3_operandIn, ksyX3_operandIn, kiyX3_operandIn, kyX3_operandIn, ⟨_, rfl, rfl⟩, rfl, by decide +kernel, by decide +kernel, by decide +kernel⟩
/-- RoundedSums$Program.operandIn -/
theorem v5_49 {E : Ev} {cc : ByteArray} {nL : Nat} {ret : Option FieldType} {R : Room} {cl sl : Nat} {Z : Zt} {pc : Nat} {L st : List Vv} {M : Mm} {N : Nn} {a b : Nat} {x0 : Nm} {x1 : Int} {x2 : Int} {h : Nat} {P : Int → Mm → Nn → Prop} (hd : decode cc pc = .ok (.invokevirtual 49, 3)) (hct : Nat.ble (ctL st) 8 = true) (hR : Nat.ble (h + 1) R.frames = true ∧ Nat.ble (8 + (5 + 11) + 40 * h) R.locals = true) (hcl : Nat.ble cl R.cells = true ∧ Nat.ble sl R.slots = true) (hc : Ct E yX3_operandIn cX3_operandIn 5 ((some .long)) (rmH h) [vr (18, a, b), vr x0, vi x1, vi x2] M N (ql P)) (k : ∀ r M1 N1, R64 r → P r M1 N1 → Go E RX5 cc nL ret R cl sl Z (pc + 3) L (vl r :: st) M1 N1) : Go E RX5 cc nL ret R cl sl Z (pc) L (vi x2 :: vi x1 :: vr x0 :: vr (18, a, b) :: st) M N := go_callV (As := [vr x0, vi x1, vi x2]) hd l5_49 rfl rfl rfl hct ⟨rfl, rfl⟩ ⟨Nat.le_of_ble_eq_true hR.1, Nat.le_of_ble_eq_true hR.2⟩ hc hcl (fun r M1 N1 h => by obtain ⟨z, rfl, h1, h⟩ := h; exact k z M1 N1 h1 h)
theorem kyX6_drawPoint : Cond.code yX6_drawPoint cX6_drawPoint 4 (none) ∈ BIG := bg4 149 (rfl) rfl
theorem kiyX6_drawPoint : Cond.initialized yX6_drawPoint.cls ∈ BIG := bg1 7 (by decide +kernel) rfl
theorem knyX6_drawPoint : Cond.instanceMethod yX6_drawPoint ∈ BIG := bg4 148 (by decide +kernel) rfl
theorem ksyX6_drawPoint : Cond.selects yX6_drawPoint.cls yX6_drawPoint yX6_drawPoint ∈ BIG := bgp (q := (yX6_drawPoint, 5)) (List.mem_of_getElem? (i := 41) (by decide +kernel)) rfl
theorem mw6_35 : Cond.methodLink RX6 35 yX6_drawPoint ∈ BIG := bg4 146 (by decide +kernel) rfl
theorem l6_35 : LkV RX6 35 6 yX6_drawPoint cX6_drawPoint 4 (none) 1 := ⟨mw6_35, knyX6_drawPoint, ksyX6_drawPoint, kiyX6_drawPoint, kyX6_drawPoint, ⟨_, rfl, rfl⟩, rfl, by decide +kernel, by decide +kernel, by decide +kernel⟩
/-- RoundedSums$Seeker.drawPoint -/
theorem v6_35 {E : Ev} {cc : ByteArray} {nL : Nat} {ret : Option FieldType} {R : Room} {cl sl : Nat} {Z : Zt} {pc : Nat} {L st : List Vv} {M : Mm} {N : Nn} {a b : Nat} {x0 : Nm} {h : Nat} {P : Mm → Nn → Prop} (hd : decode cc pc = .ok (.invokevirtual 35, 3)) (hct : Nat.ble (ctL st) 8 = true) (hR : Nat.ble (h + 1) R.frames = true ∧ Nat.ble (8 + (4 + 11) + 40 * h) R.locals = true) (hcl : Nat.ble cl R.cells = true ∧ Nat.ble sl R.slots = true) (hc : Ct E yX6_drawPoint cX6_drawPoint 4 (none) (rmH h) [vr (23, a, b), vr x0] M N (qv P)) (k : ∀ M1 N1, P M1 N1 → Go E RX6 cc nL ret R cl sl Z (pc + 3) L (st) M1 N1) : Go E RX6 cc nL ret R cl sl Z (pc) L (vr x0 :: vr (23, a, b) :: st) M N := go_callV (As := [vr x0]) hd l6_35 rfl rfl rfl hct ⟨rfl, rfl⟩ ⟨Nat.le_of_ble_eq_true hR.1, Nat.le_of_ble_eq_true hR.2⟩ hc hcl (fun r M1 N1 h => by obtain ⟨rfl, h⟩ := h; exact k M1 N1 h)
theorem kyX6_climbed : Cond.code yX6_climbed cX6_climbed 8 ((some .long)) ∈ BIG := bg4 158 (rfl) rfl
theorem kiyX6_climbed : Cond.initialized yX6_climbed.cls ∈ BIG := bg1 7 (by decide +kernel) rfl
theorem knyX6_climbed : Cond.instanceMethod yX6_climbed ∈ BIG := bg4 157 (by decide +kernel) rfl
theorem ksyX6_climbed : Cond.selects yX6_climbed.cls yX6_climbed yX6_climbed ∈ BIG := bgp (q := (yX6_climbed, 5)) (List.mem_of_getElem? (i := 43) (by decide +kernel)) rfl
theorem mw6_39 : Cond.methodLink RX6 39 yX6_climbed ∈ BIG := bg4 155 (by decide +kernel) rfl
theorem l6_39 : LkV RX6 39 6 yX6_climbed cX6_climbed 8 ((some .long)) 2 := ⟨mw6_39, knyX6_climbed, ksyX6_climbed, kiyX6_climbed, kyX6_climbed, ⟨_, rfl, rfl⟩, rfl, by decide +kernel, by decide +kernel, by decide +kernel⟩
/-- RoundedSums$Seeker.climbed -/
theorem v6_39 {E : Ev} {cc : ByteArray} {nL : Nat} {ret : Option FieldType} {R : Room} {cl sl : Nat} {Z : Zt} {pc : Nat} {L st : List Vv} {M : Mm} {N : Nn} {a b : Nat} {x0 : Nm} {x1 : Int} {h : Nat} {P : Int → Mm → Nn → Prop} (hd : decode cc pc = .ok (.invokevirtual 39, 3)) (hct : Nat.ble (ctL st) 8 = true) (hR : Nat.ble (h + 1) R.frames = true ∧ Nat.ble (8 + (8 + 11) + 40 * h) R.locals = true) (hcl : Nat.ble cl R.cells = true ∧ Nat.ble sl R.slots = true) (hc : Ct E yX6_climbed cX6_climbed 8 ((some .long)) (rmH h) [vr (23, a, b), vr x0, vi x1] M N (ql P)) (k : ∀ r M1 N1, R64 r → P r M1 N1 → Go E RX6 cc nL ret R cl sl Z (pc + 3) L (vl r :: st) M1 N1) : Go E RX6 cc nL ret R cl sl Z (pc) L (vi x1 :: vr x0 :: vr (23, a, b) :: st) M N := go_callV (As := [vr x0, vi x1]) hd l6_39 rfl rfl rfl hct ⟨rfl, rfl⟩ ⟨Nat.le_of_ble_eq_true hR.1, Nat.le_of_ble_eq_true hR.2⟩ hc hcl (fun r M1 N1 h => by obtain ⟨z, rfl, h1, h⟩ := h; exact k z M1 N1 h1 h)
theorem kyX6_errorHere : Cond.code yX6_errorHere cX6_errorHere 3 ((some .long)) ∈ BIG := bg4 162 (rfl) rfl
theorem kiyX6_errorHere : Cond.initialized yX6_errorHere.cls ∈ BIG := bg1 7 (by decide +kernel) rfl
theorem knyX6_errorHere : Cond.instanceMethod yX6_errorHere ∈ BIG := bg4 161 (by decide +kernel) rfl
theorem ksyX6_errorHere : Cond.selects yX6_errorHere.cls yX6_errorHere yX6_errorHere ∈ BIG := bgp (q := (yX6_errorHere, 5)) (List.mem_of_getElem? (i := 44) (by decide +kernel)) rfl
theorem mw6_60 : Cond.methodLink RX6 60 yX6_errorHere ∈ BIG := bg4 159 (by decide +kernel) rfl
theorem l6_60 : LkV RX6 60 6 yX6_errorHere cX6_errorHere 3 ((some .long)) 2 := ⟨mw6_60, knyX6_errorHere, ksyX6_errorHere, kiyX6_errorHere, kyX6_errorHere, ⟨_, rfl, rfl⟩, rfl, by decide +kernel, by decide +kernel, by decide +kernel⟩
/-- RoundedSums$Seeker.errorHere -/
theorem v6_60 {E : Ev} {cc : ByteArray} {nL : Nat} {ret : Option FieldType} {R : Room} {cl sl : Nat} {Z : Zt} {pc : Nat} {L st : List Vv} {M : Mm} {N : Nn} {a b : Nat} {x0 : Nm} {x1 : Int} {h : Nat} {P : Int → Mm → Nn → Prop} (hd : decode cc pc = .ok (.invokevirtual 60, 3)) (hct : Nat.ble (ctL st) 8 = true) (hR : Nat.ble (h + 1) R.frames = true ∧ Nat.ble (8 + (3 + 11) + 40 * h) R.locals = true) (hcl : Nat.ble cl R.cells = true ∧ Nat.ble sl R.slots = true) (hc : Ct E yX6_errorHere cX6_errorHere 3 ((some .long)) (rmH h) [vr (23, a, b), vr x0, vi x1] M N (ql P)) (k : ∀ r M1 N1, R64 r → P r M1 N1 → Go E RX6 cc nL ret R cl sl Z (pc + 3) L (vl r :: st) M1 N1) : Go E RX6 cc nL ret R cl sl Z (pc) L (vi x1 :: vr x0 :: vr (23, a, b) :: st) M N := go_callV (As := [vr x0, vi x1]) hd l6_60 rfl rfl rfl hct ⟨rfl, rfl⟩ ⟨Nat.le_of_ble_eq_true hR.1, Nat.le_of_ble_eq_true hR.2⟩ hc hcl (fun r M1 N1 h => by obtain ⟨z, rfl, h1, h⟩ := h; exact k z M1 N1 h1 h)
theorem kyX6_goOn : Cond.code yX6_goOn cX6_goOn 4 ((some .boolean)) ∈ BIG := bg4 192 (rfl) rfl
theorem kiyX6_goOn : Cond.initialized yX6_goOn.cls ∈ BIG := bg1 7 (by decide +kernel) rfl
theorem knyX6_goOn : Cond.instanceMethod yX6_goOn ∈ BIG := bg4 191 (by decide +kernel) rfl
theorem ksyX6_goOn : Cond.selects yX6_goOn.cls yX6_goOn yX6_goOn ∈ BIG := bgp (q := (yX6_goOn, 5)) (List.mem_of_getElem? (i := 46) (by decide +kernel)) rfl
theorem mw6_65 : Cond.methodLink RX6 65 yX6_goOn ∈ BIG := bg4 189 (by decide +kernel) rfl
theorem l6_65 : LkV RX6 65 6 yX6_goOn cX6_goOn 4 ((some .boolean)) 1 := ⟨mw6_65, knyX6_goOn, ksyX6_goOn, kiyX6_goOn, kyX6_goOn, ⟨_, rfl, rfl⟩, rfl, by decide +kernel, by decide +kernel, by decide +kernel⟩
/-- RoundedSums$Seeker.goOn -/
theorem v6_65 {E : Ev} {cc : ByteArray} {nL : Nat} {ret : Option FieldType} {R : Room} {cl sl : Nat} {Z : Zt} {pc : Nat} {L st : List Vv} {M : Mm} {N : Nn} {a b : Nat} {x0 : Nm} {h : Nat} {P : Int → Mm → Nn → Prop} (hd : decode cc pc = .ok (.invokevirtual 65, 3)) (hct : Nat.ble (ctL st) 8 = true) (hR : Nat.ble (h + 1) R.frames = true ∧ Nat.ble (8 + (4 + 11) + 40 * h) R.locals = true) (hcl : Nat.ble cl R.cells = true ∧ Nat.ble sl R.slots = true) (hc : Ct E yX6_goOn cX6_goOn 4 ((some .boolean)) (rmH h) [vr (23, a, b), vr x0] M N (qi P)) (k : ∀ r M1 N1, R32 r → P r M1 N1 → Go E RX6 cc nL ret R cl sl Z (pc + 3) L (vi r :: st) M1 N1) : Go E RX6 cc nL ret R cl sl Z (pc) L (vr x0 :: vr (23, a, b) :: st) M N := go_callV (As := [vr x0]) hd l6_65 rfl rfl rfl hct ⟨rfl, rfl⟩ ⟨Nat.le_of_ble_eq_true hR.1, Nat.le_of_ble_eq_true hR.2⟩ hc hcl (fun r M1 N1 h => by obtain ⟨z, rfl, h1, h⟩ := h; exact k z M1 N1 h1 h)
theorem mw6_69 : Cond.methodLink RX6 69 yJ9_max_f86c9 ∈ BIG := bg4 193 (by decide +kernel) rfl
theorem l6_69 : LkS RX6 69 yJ9_max_f86c9 cJ9_max_f86c9 4 ((some .long)) 2 := ⟨mw6_69, ktyJ9_max_f86c9, kiyJ9_max_f86c9, kyJ9_max_f86c9, by decide +kernel, by decide +kernel, by decide +kernel⟩
/-- java/lang/Math.max -/
theorem v6_69 {E : Ev} {cc : ByteArray} {nL : Nat} {ret : Option FieldType} {R : Room} {cl sl : Nat} {Z : Zt} {pc : Nat} {L st : List Vv} {M : Mm} {N : Nn} {x0 : Int} {x1 : Int} {h : Nat} {P : Int → Mm → Nn → Prop} (hd : decode cc pc = .ok (.invokestatic 69, 3)) (hct : Nat.ble (ctL st) 8 = true) (hR : Nat.ble (h + 1) R.frames = true ∧ Nat.ble (8 + (4 + 11) + 40 * h) R.locals = true) (hcl : Nat.ble cl R.cells = true ∧ Nat.ble sl R.slots = true) (hc : Ct E yJ9_max_f86c9 cJ9_max_f86c9 4 ((some .long)) (rmH h) [vl x0, vl x1] M N (ql P)) (k : ∀ r M1 N1, R64 r → P r M1 N1 → Go E RX6 cc nL ret R cl sl Z (pc + 3) L (vl r :: st) M1 N1) : Go E RX6 cc nL ret R cl sl Z (pc) L (vl x1 :: vl x0 :: st) M N := go_callS (As := [vl x0, vl x1]) hd l6_69 rfl rfl hct ⟨rfl, rfl⟩ ⟨Nat.le_of_ble_eq_true hR.1, Nat.le_of_ble_eq_true hR.2⟩ hc hcl (fun r M1 N1 h => by obtain ⟨z, rfl, h1, h⟩ := h; exact k z M1 N1 h1 h)
theorem mw6_75 : Cond.methodLink RX6 75 yX5_reckonAt ∈ BIG := bg4 163 (by decide +kernel) rfl
theorem l6_75 : LkV RX6 75 5 yX5_reckonAt cX5_reckonAt 5 (none) 3 := ⟨mw6_75, knyX5_reckonAt, ksyX5_reckonAt, kiyX5_reckonAt, kyX5_reckonAt, ⟨_, rfl, rfl⟩, rfl, by decide +kernel, by decide +kernel, by decide +kernel⟩
/-- RoundedSums$Run.reckonAt -/
theorem v6_75 {E : Ev} {cc : ByteArray} {nL : Nat} {ret : Option FieldType} {R : Room} {cl sl : Nat} {Z : Zt} {pc : Nat} {L st : List Vv} {M : Mm} {N : Nn} {a b : Nat} {x0 : Nm} {x1 : Nm} {x2 : Int} {h : Nat} {P : Mm → Nn → Prop} (hd : decode cc pc = .ok (.invokevirtual 75, 3)) (hct : Nat.ble (ctL st) 8 = true) (hR : Nat.ble (h + 1) R.frames = true ∧ Nat.ble (8 + (5 + 11) + 40 * h) R.locals = true) (hcl : Nat.ble cl R.cells = true ∧ Nat.ble sl R.slots = true) (hc : Ct E yX5_reckonAt cX5_reckonAt 5 (none) (rmH h) [vr (26, a, b), vr x0, vr x1, vi x2] M N (qv P)) (k : ∀ M1 N1, P M1 N1 → Go E RX6 cc nL ret R cl sl Z (pc + 3) L (st) M1 N1) : Go E RX6 cc nL ret R cl sl Z (pc) L (vi x2 :: vr x1 :: vr x0 :: vr (26, a, b) :: st) M N := go_callV (As := [vr x0, vr x1, vi x2]) hd l6_75 rfl rfl rfl hct ⟨rfl, rfl⟩ ⟨Nat.le_of_ble_eq_true hR.1, Nat.le_of_ble_eq_true hR.2⟩ hc hcl (fun r M1 N1 h => by obtain ⟨rfl, h⟩ := h; exact k M1 N1 h)
theorem mw6_79 : Cond.methodLink RX6 79 yX5_ways ∈ BIG := bg4 202 (by decide +kernel) rfl
theorem l6_79 : LkV RX6 79 5 yX5_ways cX5_ways 3 ((some .int)) 2 := ⟨mw6_79, knyX5_ways, ksyX5_ways, kiyX5_ways, kyX5_ways, ⟨_, rfl, rfl⟩, rfl, by decide +kernel, by decide +kernel, by decide +kernel⟩
/-- RoundedSums$Run.ways -/
theorem v6_79 {E : Ev} {cc : ByteArray} {nL : Nat} {ret : Option FieldType} {R : Room} {cl sl : Nat} {Z : Zt} {pc : Nat} {L st : List Vv} {M : Mm} {N : Nn} {a b : Nat} {x0 : Nm} {x1 : Int} {h : Nat} {P : Int → Mm → Nn → Prop} (hd : decode cc pc = .ok (.invokevirtual 79, 3)) (hct : Nat.ble (ctL st) 8 = true) (hR : Nat.ble (h + 1) R.frames = true ∧ Nat.ble (8 + (3 + 11) + 40 * h) R.locals = true) (hcl : Nat.ble cl R.cells = true ∧ Nat.ble sl R.slots = true) (hc : Ct E yX5_ways cX5_ways 3 ((some .int)) (rmH h) [vr (26, a, b), vr x0, vi x1] M N (qi P)) (k : ∀ r M1 N1, R32 r → P r M1 N1 → Go E RX6 cc nL ret R cl sl Z (pc + 3) L (vi r :: st) M1 N1) : Go E RX6 cc nL ret R cl sl Z (pc) L (vi x1 :: vr x0 :: vr (26, a, b) :: st) M N := go_callV (As := [vr x0, vi x1]) hd l6_79 rfl rfl rfl hct ⟨rfl, rfl⟩ ⟨Nat.le_of_ble_eq_true hR.1, Nat.le_of_ble_eq_true hR.2⟩ hc hcl (fun r M1 N1 h => by obtain ⟨z, rfl, h1, h⟩ := h; exact k z M1 N1 h1 h)
theorem kyX6_draw : Cond.code yX6_draw cX6_draw 2 ((some .int)) ∈ BIG := bg4 153 (rfl) rfl
theorem kiyX6_draw : Cond.initialized yX6_draw.cls ∈ BIG := bg1 7 (by decide +kernel) rfl
theorem knyX6_draw : Cond.instanceMethod yX6_draw ∈ BIG := bg4 152 (by decide +kernel) rfl
theorem ksyX6_draw : Cond.selects yX6_draw.cls yX6_draw yX6_draw ∈ BIG := bgp (q := (yX6_draw, 5)) (List.mem_of_getElem? (i := 42) (by decide +kernel)) rfl
theorem mw6_87 : Cond.methodLink RX6 87 yX6_draw ∈ BIG := bg4 150 (by decide +kernel) rfl
theorem l6_87 : LkV RX6 87 6 yX6_draw cX6_draw 2 ((some .int)) 1 := ⟨mw6_87, knyX6_draw, ksyX6_draw, kiyX6_draw, kyX6_draw, ⟨_, rfl, rfl⟩, rfl, by decide +kernel, by decide +kernel, by decide +kernel⟩
/-- RoundedSums$Seeker.draw -/
theorem v6_87 {E : Ev} {cc : ByteArray} {nL : Nat} {ret : Option FieldType} {R : Room} {cl sl : Nat} {Z : Zt} {pc : Nat} {L st : List Vv} {M : Mm} {N : Nn} {a b : Nat} {x0 : Int} {h : Nat} {P : Int → Mm → Nn → Prop} (hd : decode cc pc = .ok (.invokevirtual 87, 3)) (hct : Nat.ble (ctL st) 8 = true) (hR : Nat.ble (h + 1) R.frames = true ∧ Nat.ble (8 + (2 + 11) + 40 * h) R.locals = true) (hcl : Nat.ble cl R.cells = true ∧ Nat.ble sl R.slots = true) (hc : Ct E yX6_draw cX6_draw 2 ((some .int)) (rmH h) [vr (23, a, b), vi x0] M N (qi P)) (k : ∀ r M1 N1, R32 r → P r M1 N1 → Go E RX6 cc nL ret R cl sl Z (pc + 3) L (vi r :: st) M1 N1) : Go E RX6 cc nL ret R cl sl Z (pc) L (vi x0 :: vr (23, a, b) :: st) M N := go_callV (As := [vi x0]) hd l6_87 rfl rfl rfl hct ⟨rfl, rfl⟩ ⟨Nat.le_of_ble_eq_true hR.1, Nat.le_of_ble_eq_true hR.2⟩ hc hcl (fun r M1 N1 h => by obtain ⟨z, rfl, h1, h⟩ := h; exact k z M1 N1 h1 h)
theorem kyX5_errorSize : Cond.code yX5_errorSize cX5_errorSize 2 ((some .long)) ∈ BIG := bg4 167 (rfl) rfl
theorem kiyX5_errorSize : Cond.initialized yX5_errorSize.cls ∈ BIG := bg1 8 (by decide +kernel) rfl
theorem knyX5_errorSize : Cond.instanceMethod yX5_errorSize ∈ BIG := bg4 165 (by decide +kernel) rfl
theorem ksyX5_errorSize : Cond.selects yX5_errorSize.cls yX5_errorSize yX5_errorSize ∈ BIG := bg4 166 (by decide +kernel) rfl
theorem mw6_91 : Cond.methodLink RX6 91 yX5_errorSize ∈ BIG := bg4 164 (by decide +kernel) rfl
theorem l6_91 : LkV RX6 91 5 yX5_errorSize cX5_errorSize 2 ((some .long)) 1 := ⟨mw6_91, knyX5_errorSize, ksyX5_errorSize, kiyX5_errorSize, kyX5_errorSize, ⟨_, rfl, rfl⟩, rfl, by decide +kernel, by decide +kernel, by decide +kernel⟩
/-- RoundedSums$Run.errorSize -/
theorem v6_91 {E : Ev} {cc : ByteArray} {nL : Nat} {ret : Option FieldType} {R : Room} {cl sl : Nat} {Z : Zt} {pc : Nat} {L st : List Vv} {M : Mm} {N : Nn} {a b : Nat} {x0 : Int} {h : Nat} {P : Int → Mm → Nn → Prop} (hd : decode cc pc = .ok (.invokevirtual 91, 3)) (hct : Nat.ble (ctL st) 8 = true) (hR : Nat.ble (h + 1) R.frames = true ∧ Nat.ble (8 + (2 + 11) + 40 * h) R.locals = true) (hcl : Nat.ble cl R.cells = true ∧ Nat.ble sl R.slots = true) (hc : Ct E yX5_errorSize cX5_errorSize 2 ((some .long)) (rmH h) [vr (26, a, b), vi x0] M N (ql P)) (k : ∀ r M1 N1, R64 r → P r M1 N1 → Go E RX6 cc nL ret R cl sl Z (pc + 3) L (vl r :: st) M1 N1) : Go E RX6 cc nL ret R cl sl Z (pc) L (vi x0 :: vr (26, a, b) :: st) M N := go_callV (As := [vi x0]) hd l6_91 rfl rfl rfl hct ⟨rfl, rfl⟩ ⟨Nat.le_of_ble_eq_true hR.1, Nat.le_of_ble_eq_true hR.2⟩ hc hcl (fun r M1 N1 h => by obtain ⟨z, rfl, h1, h⟩ := h; exact k z M1 N1 h1 h)
theorem kyX6_moved : Cond.code yX6_moved cX6_moved 12 ((some .long)) ∈ BIG := bg4 172 (rfl) rfl
theorem kiyX6_moved : Cond.initialized yX6_moved.cls ∈ BIG := bg1 7 (by decide +kernel) rfl
theorem knyX6_moved : Cond.instanceMethod yX6_moved ∈ BIG := bg4 171 (by decide +kernel) rfl
theorem ksyX6_moved : Cond.selects yX6_moved.cls yX6_moved yX6_moved ∈ BIG := bgp (q := (yX6_moved, 5)) (List.mem_of_getElem? (i := 45) (by decide +kernel)) rfl
theorem mw6_95 : Cond.methodLink RX6 95 yX6_moved ∈ BIG := bg4 169 (by decide +kernel) rfl
theorem l6_95 : LkV RX6 95 6 yX6_moved cX6_moved 12 ((some .long)) 3 := ⟨mw6_95, knyX6_moved, ksyX6_moved, kiyX6_moved, kyX6_moved, ⟨_, rfl, rfl⟩, rfl, by decide +kernel, by decide +kernel, by decide +kernel⟩
/-- RoundedSums$Seeker.moved -/
theorem v6_95 {E : Ev} {cc : ByteArray} {nL : Nat} {ret : Option FieldType} {R : Room} {cl sl : Nat} {Z : Zt} {pc : Nat} {L st : List Vv} {M : Mm} {N : Nn} {a b : Nat} {x0 : Nm} {x1 : Int} {x2 : Int} {h : Nat} {P : Int → Mm → Nn → Prop} (hd : decode cc pc = .ok (.invokevirtual 95, 3)) (hct : Nat.ble (ctL st) 8 = true) (hR : Nat.ble (h + 1) R.frames = true ∧ Nat.ble (8 + (12 + 11) + 40 * h) R.locals = true) (hcl : Nat.ble cl R.cells = true ∧ Nat.ble sl R.slots = true) (hc : Ct E yX6_moved cX6_moved 12 ((some .long)) (rmH h) [vr (23, a, b), vr x0, vi x1, vl x2] M N (ql P)) (k : ∀ r M1 N1, R64 r → P r M1 N1 → Go E RX6 cc nL ret R cl sl Z (pc + 3) L (vl r :: st) M1 N1) : Go E RX6 cc nL ret R cl sl Z (pc) L (vl x2 :: vi x1 :: vr x0 :: vr (23, a, b) :: st) M N := go_callV (As := [vr x0, vi x1, vl x2]) hd l6_95 rfl rfl rfl hct ⟨rfl, rfl⟩ ⟨Nat.le_of_ble_eq_true hR.1, Nat.le_of_ble_eq_true hR.2⟩ hc hcl (fun r M1 N1 h => by obtain ⟨z, rfl, h1, h⟩ := h; exact k z M1 N1 h1 h)
theorem mw6_99 : Cond.methodLink RX6 99 yX3_needs ∈ BIG := bg4 173 (by decide +kernel) rfl
theorem l6_99 : LkV RX6 99 3 yX3_needs cX3_needs 3 ((some .boolean)) 2 := ⟨mw6_99, knyX3_needs, ksyX3_needs, kiyX3_needs, kyX3_needs, ⟨_, rfl, rfl⟩, rfl, by decide +kernel, by decide +kernel, by decide +kernel⟩
/-- RoundedSums$Program.needs -/
theorem v6_99 {E : Ev} {cc : ByteArray} {nL : Nat} {ret : Option FieldType} {R : Room} {cl sl : Nat} {Z : Zt} {pc : Nat} {L st : List Vv} {M : Mm} {N : Nn} {a b : Nat} {x0 : Int} {x1 : Int} {h : Nat} {P : Int → Mm → Nn → Prop} (hd : decode cc pc = .ok (.invokevirtual 99, 3)) (hct : Nat.ble (ctL st) 8 = true) (hR : Nat.ble (h + 1) R.frames = true ∧ Nat.ble (8 + (3 + 11) + 40 * h) R.locals = true) (hcl : Nat.ble cl R.cells = true ∧ Nat.ble sl R.slots = true) (hc : Ct E yX3_needs cX3_needs 3 ((some .boolean)) (rmH h) [vr (18, a, b), vi x0, vi x1] M N (qi P)) (k : ∀ r M1 N1, R32 r → P r M1 N1 → Go E RX6 cc nL ret R cl sl Z (pc + 3) L (vi r :: st) M1 N1) : Go E RX6 cc nL ret R cl sl Z (pc) L (vi x1 :: vi x0 :: vr (18, a, b) :: st) M N := go_callV (As := [vi x0, vi x1]) hd l6_99 rfl rfl rfl hct ⟨rfl, rfl⟩ ⟨Nat.le_of_ble_eq_true hR.1, Nat.le_of_ble_eq_true hR.2⟩ hc hcl (fun r M1 N1 h => by obtain ⟨z, rfl, h1, h⟩ := h; exact k z M1 N1 h1 h)
theorem kyX7_doubtful : Cond.code yX7_doubtful cX7_doubtful 4 ((some .int)) ∈ BIG := bg4 236 (rfl) rfl
theorem kiyX7_doubtful : Cond.initialized yX7_doubtful.cls ∈ BIG := bg1 1 (by decide +kernel) rfl
theorem knyX7_doubtful : Cond.instanceMethod yX7_doubtful ∈ BIG := bg4 234 (by decide +kernel) rfl
theorem ksyX7_doubtful : Cond.selects yX7_doubtful.cls yX7_doubtful yX7_doubtful ∈ BIG := bg4 235 (by decide +kernel) rfl
theorem mwL_7 : Cond.methodLink RL 7 yX7_doubtful ∈ BIG := bg4 233 (by decide +kernel) rfl
theorem lL_7 : LkV RL 7 7 yX7_doubtful cX7_doubtful 4 ((some .int)) 1 := ⟨mwL_7, knyX7_doubtful, ksyX7_doubtful, kiyX7_doubtful, kyX7_doubtful, ⟨_, rfl, rfl⟩, rfl, by decide +kernel, by decide +kernel, by decide +kernel⟩
/-- RoundedSums.doubtful -/
theorem vL_7 {E : Ev} {cc : ByteArray} {nL : Nat} {ret : Option FieldType} {R : Room} {cl sl : Nat} {Z : Zt} {pc : Nat} {L st : List Vv} {M : Mm} {N : Nn} {a b : Nat} {x0 : Int} {h : Nat} {P : Int → Mm → Nn → Prop} (hd : decode cc pc = .ok (.invokevirtual 7, 3)) (hct : Nat.ble (ctL st) 8 = true) (hR : Nat.ble (h + 1) R.frames = true ∧ Nat.ble (8 + (4 + 11) + 40 * h) R.locals = true) (hcl : Nat.ble cl R.cells = true ∧ Nat.ble sl R.slots = true) (hc : Ct E yX7_doubtful cX7_doubtful 4 ((some .int)) (rmH h) [vr (3, a, b), vi x0] M N (qi P)) (k : ∀ r M1 N1, R32 r → P r M1 N1 → Go E RL cc nL ret R cl sl Z (pc + 3) L (vi r :: st) M1 N1) : Go E RL cc nL ret R cl sl Z (pc) L (vi x0 :: vr (3, a, b) :: st) M N := go_callV (As := [vi x0]) hd lL_7 rfl rfl rfl hct ⟨rfl, rfl⟩ ⟨Nat.le_of_ble_eq_true hR.1, Nat.le_of_ble_eq_true hR.2⟩ hc hcl (fun r M1 N1 h => by obtain ⟨z, rfl, h1, h⟩ := h; exact k z M1 N1 h1 h)
theorem kyX7_feed : Cond.code yX7_feed cX7_feed 6 ((some .int)) ∈ BIG := bg2 108 (rfl) rfl
theorem kiyX7_feed : Cond.initialized yX7_feed.cls ∈ BIG := bg1 1 (by decide +kernel) rfl
theorem knyX7_feed : Cond.instanceMethod yX7_feed ∈ BIG := bg2 106 (by decide +kernel) rfl
theorem ksyX7_feed : Cond.selects yX7_feed.cls yX7_feed yX7_feed ∈ BIG := bg2 107 (by decide +kernel) rfl
theorem mwL_19 : Cond.methodLink RL 19 yX7_feed ∈ BIG := bg2 105 (by decide +kernel) rfl
theorem lL_19 : LkV RL 19 7 yX7_feed cX7_feed 6 ((some .int)) 5 := ⟨mwL_19, knyX7_feed, ksyX7_feed, kiyX7_feed, kyX7_feed, ⟨_, rfl, rfl⟩, rfl, by decide +kernel, by decide +kernel, by decide +kernel⟩
/-- RoundedSums.feed -/
theorem vL_19 {E : Ev} {cc : ByteArray} {nL : Nat} {ret : Option FieldType} {R : Room} {cl sl : Nat} {Z : Zt} {pc : Nat} {L st : List Vv} {M : Mm} {N : Nn} {a b : Nat} {x0 : Int} {x1 : Int} {x2 : Int} {x3 : Int} {x4 : Int} {h : Nat} {P : Int → Mm → Nn → Prop} (hd : decode cc pc = .ok (.invokevirtual 19, 3)) (hct : Nat.ble (ctL st) 8 = true) (hR : Nat.ble (h + 1) R.frames = true ∧ Nat.ble (8 + (6 + 11) + 40 * h) R.locals = true) (hcl : Nat.ble cl R.cells = true ∧ Nat.ble sl R.slots = true) (hc : Ct E yX7_feed cX7_feed 6 ((some .int)) (rmH h) [vr (3, a, b), vi x0, vi x1, vi x2, vi x3, vi x4] M N (qi P)) (k : ∀ r M1 N1, R32 r → P r M1 N1 → Go E RL cc nL ret R cl sl Z (pc + 3) L (vi r :: st) M1 N1) : Go E RL cc nL ret R cl sl Z (pc) L (vi x4 :: vi x3 :: vi x2 :: vi x1 :: vi x0 :: vr (3, a, b) :: st) M N := go_callV (As := [vi x0, vi x1, vi x2, vi x3, vi x4]) hd lL_19 rfl rfl rfl hct ⟨rfl, rfl⟩ ⟨Nat.le_of_ble_eq_true hR.1, Nat.le_of_ble_eq_true hR.2⟩ hc hcl (fun r M1 N1 h => by obtain ⟨z, rfl, h1, h⟩ := h; exact k z M1 N1 h1 h)
theorem kyX8_feed : Cond.code yX8_feed cX8_feed 6 ((some .int)) ∈ BIG := bg5 233 (rfl) rfl
theorem kiyX8_feed : Cond.initialized yX8_feed.cls ∈ BIG := bg1 9 (by decide +kernel) rfl
theorem knyX8_feed : Cond.instanceMethod yX8_feed ∈ BIG := bg5 231 (by decide +kernel) rfl
theorem ksyX8_feed : Cond.selects yX8_feed.cls yX8_feed yX8_feed ∈ BIG := bg5 232 (by decide +kernel) rfl
theorem mwL_23 : Cond.methodLink RL 23 yX8_feed ∈ BIG := bg5 230 (by decide +kernel) rfl
theorem lL_23 : LkV RL 23 8 yX8_feed cX8_feed 6 ((some .int)) 5 := ⟨mwL_23, knyX8_feed, ksyX8_feed, kiyX8_feed, kyX8_feed, ⟨_, rfl, rfl⟩, rfl, by decide +kernel, by decide +kernel, by decide +kernel⟩
/-- RoundedSumsModel.feed -/
theorem vL_23 {E : Ev} {cc : ByteArray} {nL : Nat} {ret : Option FieldType} {R : Room} {cl sl : Nat} {Z : Zt} {pc : Nat} {L st : List Vv} {M : Mm} {N : Nn} {a b : Nat} {x0 : Int} {x1 : Int} {x2 : Int} {x3 : Int} {x4 : Int} {h : Nat} {P : Int → Mm → Nn → Prop} (hd : decode cc pc = .ok (.invokevirtual 23, 3)) (hct : Nat.ble (ctL st) 8 = true) (hR : Nat.ble (h + 1) R.frames = true ∧ Nat.ble (8 + (6 + 11) + 40 * h) R.locals = true) (hcl : Nat.ble cl R.cells = true ∧ Nat.ble sl R.slots = true) (hc : Ct E yX8_feed cX8_feed 6 ((some .int)) (rmH h) [vr (29, a, b), vi x0, vi x1, vi x2, vi x3, vi x4] M N (qi P)) (k : ∀ r M1 N1, R32 r → P r M1 N1 → Go E RL cc nL ret R cl sl Z (pc + 3) L (vi r :: st) M1 N1) : Go E RL cc nL ret R cl sl Z (pc) L (vi x4 :: vi x3 :: vi x2 :: vi x1 :: vi x0 :: vr (29, a, b) :: st) M N := go_callV (As := [vi x0, vi x1, vi x2, vi x3, vi x4]) hd lL_23 rfl rfl rfl hct ⟨rfl, rfl⟩ ⟨Nat.le_of_ble_eq_true hR.1, Nat.le_of_ble_eq_true hR.2⟩ hc hcl (fun r M1 N1 h => by obtain ⟨z, rfl, h1, h⟩ := h; exact k z M1 N1 h1 h)
theorem kyX7_program : Cond.code yX7_program cX7_program 5 ((some .int)) ∈ BIG := bg2 116 (rfl) rfl
theorem kiyX7_program : Cond.initialized yX7_program.cls ∈ BIG := bg1 1 (by decide +kernel) rfl
theorem knyX7_program : Cond.instanceMethod yX7_program ∈ BIG := bg2 114 (by decide +kernel) rfl
theorem ksyX7_program : Cond.selects yX7_program.cls yX7_program yX7_program ∈ BIG := bg2 115 (by decide +kernel) rfl
theorem mwL_24 : Cond.methodLink RL 24 yX7_program ∈ BIG := bg2 113 (by decide +kernel) rfl
theorem lL_24 : LkV RL 24 7 yX7_program cX7_program 5 ((some .int)) 1 := ⟨mwL_24, knyX7_program, ksyX7_program, kiyX7_program, kyX7_program, ⟨_, rfl, rfl⟩, rfl, by decide +kernel, by decide +kernel, by decide +kernel⟩
/-- RoundedSums.program -/
theorem vL_24 {E : Ev} {cc : ByteArray} {nL : Nat} {ret : Option FieldType} {R : Room} {cl sl : Nat} {Z : Zt} {pc : Nat} {L st : List Vv} {M : Mm} {N : Nn} {a b : Nat} {x0 : Int} {h : Nat} {P : Int → Mm → Nn → Prop} (hd : decode cc pc = .ok (.invokevirtual 24, 3)) (hct : Nat.ble (ctL st) 8 = true) (hR : Nat.ble (h + 1) R.frames = true ∧ Nat.ble (8 + (5 + 11) + 40 * h) R.locals = true) (hcl : Nat.ble cl R.cells = true ∧ Nat.ble sl R.slots = true) (hc : Ct E yX7_program cX7_program 5 ((some .int)) (rmH h) [vr (3, a, b), vi x0] M N (qi P)) (k : ∀ r M1 N1, R32 r → P r M1 N1 → Go E RL cc nL ret R cl sl Z (pc + 3) L (vi r :: st) M1 N1) : Go E RL cc nL ret R cl sl Z (pc) L (vi x0 :: vr (3, a, b) :: st) M N := go_callV (As := [vi x0]) hd lL_24 rfl rfl rfl hct ⟨rfl, rfl⟩ ⟨Nat.le_of_ble_eq_true hR.1, Nat.le_of_ble_eq_true hR.2⟩ hc hcl (fun r M1 N1 h => by obtain ⟨z, rfl, h1, h⟩ := h; exact k z M1 N1 h1 h)
theorem kyX8_program : Cond.code yX8_program cX8_program 4 ((some .int)) ∈ BIG := bg6 1 (rfl) rfl
theorem kiyX8_program : Cond.initialized yX8_program.cls ∈ BIG := bg1 9 (by decide +kernel) rfl
theorem knyX8_program : Cond.instanceMethod yX8_program ∈ BIG := bg5 239 (by decide +kernel) rfl
theorem ksyX8_program : Cond.selects yX8_program.cls yX8_program yX8_program ∈ BIG := bg6 0 (by decide +kernel) rfl
theorem mwL_27 : Cond.methodLink RL 27 yX8_program ∈ BIG := bg5 238 (by decide +kernel) rfl
theorem lL_27 : LkV RL 27 8 yX8_program cX8_program 4 ((some .int)) 1 := ⟨mwL_27, knyX8_program, ksyX8_program, kiyX8_program, kyX8_program, ⟨_, rfl, rfl⟩, rfl, by decide +kernel, by decide +kernel, by decide +kernel⟩
/-- RoundedSumsModel.program -/
theorem vL_27 {E : Ev} {cc : ByteArray} {nL : Nat} {ret : Option FieldType} {R : Room} {cl sl : Nat} {Z : Zt} {pc : Nat} {L st : List Vv} {M : Mm} {N : Nn} {a b : Nat} {x0 : Int} {h : Nat} {P : Int → Mm → Nn → Prop} (hd : decode cc pc = .ok (.invokevirtual 27, 3)) (hct : Nat.ble (ctL st) 8 = true) (hR : Nat.ble (h + 1) R.frames = true ∧ Nat.ble (8 + (4 + 11) + 40 * h) R.locals = true) (hcl : Nat.ble cl R.cells = true ∧ Nat.ble sl R.slots = true) (hc : Ct E yX8_program cX8_program 4 ((some .int)) (rmH h) [vr (29, a, b), vi x0] M N (qi P)) (k : ∀ r M1 N1, R32 r → P r M1 N1 → Go E RL cc nL ret R cl sl Z (pc + 3) L (vi r :: st) M1 N1) : Go E RL cc nL ret R cl sl Z (pc) L (vi x0 :: vr (29, a, b) :: st) M N := go_callV (As := [vi x0]) hd lL_27 rfl rfl rfl hct ⟨rfl, rfl⟩ ⟨Nat.le_of_ble_eq_true hR.1, Nat.le_of_ble_eq_true hR.2⟩ hc hcl (fun r M1 N1 h => by obtain ⟨z, rfl, h1, h⟩ := h; exact k z M1 N1 h1 h)
theorem kyX7_fault : Cond.code yX7_fault cX7_fault 1 ((some .int)) ∈ BIG := bg3 175 (rfl) rfl
theorem kiyX7_fault : Cond.initialized yX7_fault.cls ∈ BIG := bg1 1 (by decide +kernel) rfl
theorem knyX7_fault : Cond.instanceMethod yX7_fault ∈ BIG := bg3 173 (by decide +kernel) rfl
theorem ksyX7_fault : Cond.selects yX7_fault.cls yX7_fault yX7_fault ∈ BIG := bg3 174 (by decide +kernel) rfl
theorem mwL_28 : Cond.methodLink RL 28 yX7_fault ∈ BIG := bg3 172 (by decide +kernel) rfl
theorem lL_28 : LkV RL 28 7 yX7_fault cX7_fault 1 ((some .int)) 0 := ⟨mwL_28, knyX7_fault, ksyX7_fault, kiyX7_fault, kyX7_fault, ⟨_, rfl, rfl⟩, rfl, by decide +kernel, by decide +kernel, by decide +kernel⟩
/-- RoundedSums.fault -/
theorem vL_28 {E : Ev} {cc : ByteArray} {nL : Nat} {ret : Option FieldType} {R : Room} {cl sl : Nat} {Z : Zt} {pc : Nat} {L st : List Vv} {M : Mm} {N : Nn} {a b : Nat}  {h : Nat} {P : Int → Mm → Nn → Prop} (hd : decode cc pc = .ok (.invokevirtual 28, 3)) (hct : Nat.ble (ctL st) 8 = true) (hR : Nat.ble (h + 1) R.frames = true ∧ Nat.ble (8 + (1 + 11) + 40 * h) R.locals = true) (hcl : Nat.ble cl R.cells = true ∧ Nat.ble sl R.slots = true) (hc : Ct E yX7_fault cX7_fault 1 ((some .int)) (rmH h) [vr (3, a, b)] M N (qi P)) (k : ∀ r M1 N1, R32 r → P r M1 N1 → Go E RL cc nL ret R cl sl Z (pc + 3) L (vi r :: st) M1 N1) : Go E RL cc nL ret R cl sl Z (pc) L (vr (3, a, b) :: st) M N := go_callV (As := []) hd lL_28 rfl rfl rfl hct ⟨rfl, rfl⟩ ⟨Nat.le_of_ble_eq_true hR.1, Nat.le_of_ble_eq_true hR.2⟩ hc hcl (fun r M1 N1 h => by obtain ⟨z, rfl, h1, h⟩ := h; exact k z M1 N1 h1 h)
theorem kyX8_fault : Cond.code yX8_fault cX8_fault 1 ((some .int)) ∈ BIG := bg6 115 (rfl) rfl
theorem kiyX8_fault : Cond.initialized yX8_fault.cls ∈ BIG := bg1 9 (by decide +kernel) rfl
theorem knyX8_fault : Cond.instanceMethod yX8_fault ∈ BIG := bg6 113 (by decide +kernel) rfl
theorem ksyX8_fault : Cond.selects yX8_fault.cls yX8_fault yX8_fault ∈ BIG := bg6 114 (by decide +kernel) rfl
theorem mwL_32 : Cond.methodLink RL 32 yX8_fault ∈ BIG := bg6 112 (by decide +kernel) rfl
theorem lL_32 : LkV RL 32 8 yX8_fault cX8_fault 1 ((some .int)) 0 := ⟨mwL_32, knyX8_fault, ksyX8_fault, kiyX8_fault, kyX8_fault, ⟨_, rfl, rfl⟩, rfl, by decide +kernel, by decide +kernel, by decide +kernel⟩
/-- RoundedSumsModel.fault -/
theorem vL_32 {E : Ev} {cc : ByteArray} {nL : Nat} {ret : Option FieldType} {R : Room} {cl sl : Nat} {Z : Zt} {pc : Nat} {L st : List Vv} {M : Mm} {N : Nn} {a b : Nat}  {h : Nat} {P : Int → Mm → Nn → Prop} (hd : decode cc pc = .ok (.invokevirtual 32, 3)) (hct : Nat.ble (ctL st) 8 = true) (hR : Nat.ble (h + 1) R.frames = true ∧ Nat.ble (8 + (1 + 11) + 40 * h) R.locals = true) (hcl : Nat.ble cl R.cells = true ∧ Nat.ble sl R.slots = true) (hc : Ct E yX8_fault cX8_fault 1 ((some .int)) (rmH h) [vr (29, a, b)] M N (qi P)) (k : ∀ r M1 N1, R32 r → P r M1 N1 → Go E RL cc nL ret R cl sl Z (pc + 3) L (vi r :: st) M1 N1) : Go E RL cc nL ret R cl sl Z (pc) L (vr (29, a, b) :: st) M N := go_callV (As := []) hd lL_32 rfl rfl rfl hct ⟨rfl, rfl⟩ ⟨Nat.le_of_ble_eq_true hR.1, Nat.le_of_ble_eq_true hR.2⟩ hc hcl (fun r M1 N1 h => by obtain ⟨z, rfl, h1, h⟩ := h; exact k z M1 N1 h1 h)
theorem kyX7_where : Cond.code yX7_where cX7_where 1 ((some .int)) ∈ BIG := bg3 179 (rfl) rfl
theorem kiyX7_where : Cond.initialized yX7_where.cls ∈ BIG := bg1 1 (by decide +kernel) rfl
theorem knyX7_where : Cond.instanceMethod yX7_where ∈ BIG := bg3 177 (by decide +kernel) rfl
theorem ksyX7_where : Cond.selects yX7_where.cls yX7_where yX7_where ∈ BIG := bg3 178 (by decide +kernel) rfl
theorem mwL_33 : Cond.methodLink RL 33 yX7_where ∈ BIG := bg3 176 (by decide +kernel) rfl
theorem lL_33 : LkV RL 33 7 yX7_where cX7_where 1 ((some .int)) 0 := ⟨mwL_33, knyX7_where, ksyX7_where, kiyX7_where, kyX7_where, ⟨_, rfl, rfl⟩, rfl, by decide +kernel, by decide +kernel, by decide +kernel⟩
/-- RoundedSums.where -/
theorem vL_33 {E : Ev} {cc : ByteArray} {nL : Nat} {ret : Option FieldType} {R : Room} {cl sl : Nat} {Z : Zt} {pc : Nat} {L st : List Vv} {M : Mm} {N : Nn} {a b : Nat}  {h : Nat} {P : Int → Mm → Nn → Prop} (hd : decode cc pc = .ok (.invokevirtual 33, 3)) (hct : Nat.ble (ctL st) 8 = true) (hR : Nat.ble (h + 1) R.frames = true ∧ Nat.ble (8 + (1 + 11) + 40 * h) R.locals = true) (hcl : Nat.ble cl R.cells = true ∧ Nat.ble sl R.slots = true) (hc : Ct E yX7_where cX7_where 1 ((some .int)) (rmH h) [vr (3, a, b)] M N (qi P)) (k : ∀ r M1 N1, R32 r → P r M1 N1 → Go E RL cc nL ret R cl sl Z (pc + 3) L (vi r :: st) M1 N1) : Go E RL cc nL ret R cl sl Z (pc) L (vr (3, a, b) :: st) M N := go_callV (As := []) hd lL_33 rfl rfl rfl hct ⟨rfl, rfl⟩ ⟨Nat.le_of_ble_eq_true hR.1, Nat.le_of_ble_eq_true hR.2⟩ hc hcl (fun r M1 N1 h => by obtain ⟨z, rfl, h1, h⟩ := h; exact k z M1 N1 h1 h)
theorem kyX8_where : Cond.code yX8_where cX8_where 1 ((some .int)) ∈ BIG := bg6 119 (rfl) rfl
theorem kiyX8_where : Cond.initialized yX8_where.cls ∈ BIG := bg1 9 (by decide +kernel) rfl
theorem knyX8_where : Cond.instanceMethod yX8_where ∈ BIG := bg6 117 (by decide +kernel) rfl
theorem ksyX8_where : Cond.selects yX8_where.cls yX8_where yX8_where ∈ BIG := bg6 118 (by decide +kernel) rfl
theorem mwL_36 : Cond.methodLink RL 36 yX8_where ∈ BIG := bg6 116 (by decide +kernel) rfl
theorem lL_36 : LkV RL 36 8 yX8_where cX8_where 1 ((some .int)) 0 := ⟨mwL_36, knyX8_where, ksyX8_where, kiyX8_where, kyX8_where, ⟨_, rfl, rfl⟩, rfl, by decide +kernel, by decide +kernel, by decide +kernel⟩
/-- RoundedSumsModel.where -/
theorem vL_36 {E : Ev} {cc : ByteArray} {nL : Nat} {ret : Option FieldType} {R : Room} {cl sl : Nat} {Z : Zt} {pc : Nat} {L st : List Vv} {M : Mm} {N : Nn} {a b : Nat}  {h : Nat} {P : Int → Mm → Nn → Prop} (hd : decode cc pc = .ok (.invokevirtual 36, 3)) (hct : Nat.ble (ctL st) 8 = true) (hR : Nat.ble (h + 1) R.frames = true ∧ Nat.ble (8 + (1 + 11) + 40 * h) R.locals = true) (hcl : Nat.ble cl R.cells = true ∧ Nat.ble sl R.slots = true) (hc : Ct E yX8_where cX8_where 1 ((some .int)) (rmH h) [vr (29, a, b)] M N (qi P)) (k : ∀ r M1 N1, R32 r → P r M1 N1 → Go E RL cc nL ret R cl sl Z (pc + 3) L (vi r :: st) M1 N1) : Go E RL cc nL ret R cl sl Z (pc) L (vr (29, a, b) :: st) M N := go_callV (As := []) hd lL_36 rfl rfl rfl hct ⟨rfl, rfl⟩ ⟨Nat.le_of_ble_eq_true hR.1, Nat.le_of_ble_eq_true hR.2⟩ hc hcl (fun r M1 N1 h => by obtain ⟨z, rfl, h1, h⟩ := h; exact k z M1 N1 h1 h)
theorem kyX7_about : Cond.code yX7_about cX7_about 2 ((some .int)) ∈ BIG := bg3 183 (rfl) rfl
theorem kiyX7_about : Cond.initialized yX7_about.cls ∈ BIG := bg1 1 (by decide +kernel) rfl
theorem knyX7_about : Cond.instanceMethod yX7_about ∈ BIG := bg3 181 (by decide +kernel) rfl
theorem ksyX7_about : Cond.selects yX7_about.cls yX7_about yX7_about ∈ BIG := bg3 182 (by decide +kernel) rfl
theorem mwL_37 : Cond.methodLink RL 37 yX7_about ∈ BIG := bg3 180 (by decide +kernel) rfl
theorem lL_37 : LkV RL 37 7 yX7_about cX7_about 2 ((some .int)) 1 := ⟨mwL_37, knyX7_about, ksyX7_about, kiyX7_about, kyX7_about, ⟨_, rfl, rfl⟩, rfl, by decide +kernel, by decide +kernel, by decide +kernel⟩
/-- RoundedSums.about -/
theorem vL_37 {E : Ev} {cc : ByteArray} {nL : Nat} {ret : Option FieldType} {R : Room} {cl sl : Nat} {Z : Zt} {pc : Nat} {L st : List Vv} {M : Mm} {N : Nn} {a b : Nat} {x0 : Int} {h : Nat} {P : Int → Mm → Nn → Prop} (hd : decode cc pc = .ok (.invokevirtual 37, 3)) (hct : Nat.ble (ctL st) 8 = true) (hR : Nat.ble (h + 1) R.frames = true ∧ Nat.ble (8 + (2 + 11) + 40 * h) R.locals = true) (hcl : Nat.ble cl R.cells = true ∧ Nat.ble sl R.slots = true) (hc : Ct E yX7_about cX7_about 2 ((some .int)) (rmH h) [vr (3, a, b), vi x0] M N (qi P)) (k : ∀ r M1 N1, R32 r → P r M1 N1 → Go E RL cc nL ret R cl sl Z (pc + 3) L (vi r :: st) M1 N1) : Go E RL cc nL ret R cl sl Z (pc) L (vi x0 :: vr (3, a, b) :: st) M N := go_callV (As := [vi x0]) hd lL_37 rfl rfl rfl hct ⟨rfl, rfl⟩ ⟨Nat.le_of_ble_eq_true hR.1, Nat.le_of_ble_eq_true hR.2⟩ hc hcl (fun r M1 N1 h => by obtain ⟨z, rfl, h1, h⟩ := h; exact k z M1 N1 h1 h)
theorem kyX8_about : Cond.code yX8_about cX8_about 2 ((some .int)) ∈ BIG := bg6 123 (rfl) rfl
theorem kiyX8_about : Cond.initialized yX8_about.cls ∈ BIG := bg1 9 (by decide +kernel) rfl
theorem knyX8_about : Cond.instanceMethod yX8_about ∈ BIG := bg6 121 (by decide +kernel) rfl
theorem ksyX8_about : Cond.selects yX8_about.cls yX8_about yX8_about ∈ BIG := bg6 122 (by decide +kernel) rfl
theorem mwL_40 : Cond.methodLink RL 40 yX8_about ∈ BIG := bg6 120 (by decide +kernel) rfl
theorem lL_40 : LkV RL 40 8 yX8_about cX8_about 2 ((some .int)) 1 := ⟨mwL_40, knyX8_about, ksyX8_about, kiyX8_about, kyX8_about, ⟨_, rfl, rfl⟩, rfl, by decide +kernel, by decide +kernel, by decide +kernel⟩
/-- RoundedSumsModel.about -/
theorem vL_40 {E : Ev} {cc : ByteArray} {nL : Nat} {ret : Option FieldType} {R : Room} {cl sl : Nat} {Z : Zt} {pc : Nat} {L st : List Vv} {M : Mm} {N : Nn} {a b : Nat} {x0 : Int} {h : Nat} {P : Int → Mm → Nn → Prop} (hd : decode cc pc = .ok (.invokevirtual 40, 3)) (hct : Nat.ble (ctL st) 8 = true) (hR : Nat.ble (h + 1) R.frames = true ∧ Nat.ble (8 + (2 + 11) + 40 * h) R.locals = true) (hcl : Nat.ble cl R.cells = true ∧ Nat.ble sl R.slots = true) (hc : Ct E yX8_about cX8_about 2 ((some .int)) (rmH h) [vr (29, a, b), vi x0] M N (qi P)) (k : ∀ r M1 N1, R32 r → P r M1 N1 → Go E RL cc nL ret R cl sl Z (pc + 3) L (vi r :: st) M1 N1) : Go E RL cc nL ret R cl sl Z (pc) L (vi x0 :: vr (29, a, b) :: st) M N := go_callV (As := [vi x0]) hd lL_40 rfl rfl rfl hct ⟨rfl, rfl⟩ ⟨Nat.le_of_ble_eq_true hR.1, Nat.le_of_ble_eq_true hR.2⟩ hc hcl (fun r M1 N1 h => by obtain ⟨z, rfl, h1, h⟩ := h; exact k z M1 N1 h1 h)
theorem kyX7_variable : Cond.code yX7_variable cX7_variable 4 ((some .long)) ∈ BIG := bg3 194 (rfl) rfl
theorem kiyX7_variable : Cond.initialized yX7_variable.cls ∈ BIG := bg1 1 (by decide +kernel) rfl
theorem knyX7_variable : Cond.instanceMethod yX7_variable ∈ BIG := bg3 192 (by decide +kernel) rfl
theorem ksyX7_variable : Cond.selects yX7_variable.cls yX7_variable yX7_variable ∈ BIG := bg3 193 (by decide +kernel) rfl
theorem mwL_41 : Cond.methodLink RL 41 yX7_variable ∈ BIG := bg3 191 (by decide +kernel) rfl
theorem lL_41 : LkV RL 41 7 yX7_variable cX7_variable 4 ((some .long)) 2 := ⟨mwL_41, knyX7_variable, ksyX7_variable, kiyX7_variable, kyX7_variable, ⟨_, rfl, rfl⟩, rfl, by decide +kernel, by decide +kernel, by decide +kernel⟩
/-- RoundedSums.variable -/
theorem vL_41 {E : Ev} {cc : ByteArray} {nL : Nat} {ret : Option FieldType} {R : Room} {cl sl : Nat} {Z : Zt} {pc : Nat} {L st : List Vv} {M : Mm} {N : Nn} {a b : Nat} {x0 : Int} {x1 : Int} {h : Nat} {P : Int → Mm → Nn → Prop} (hd : decode cc pc = .ok (.invokevirtual 41, 3)) (hct : Nat.ble (ctL st) 8 = true) (hR : Nat.ble (h + 1) R.frames = true ∧ Nat.ble (8 + (4 + 11) + 40 * h) R.locals = true) (hcl : Nat.ble cl R.cells = true ∧ Nat.ble sl R.slots = true) (hc : Ct E yX7_variable cX7_variable 4 ((some .long)) (rmH h) [vr (3, a, b), vi x0, vi x1] M N (ql P)) (k : ∀ r M1 N1, R64 r → P r M1 N1 → Go E RL cc nL ret R cl sl Z (pc + 3) L (vl r :: st) M1 N1) : Go E RL cc nL ret R cl sl Z (pc) L (vi x1 :: vi x0 :: vr (3, a, b) :: st) M N := go_callV (As := [vi x0, vi x1]) hd lL_41 rfl rfl rfl hct ⟨rfl, rfl⟩ ⟨Nat.le_of_ble_eq_true hR.1, Nat.le_of_ble_eq_true hR.2⟩ hc hcl (fun r M1 N1 h => by obtain ⟨z, rfl, h1, h⟩ := h; exact k z M1 N1 h1 h)
theorem kyX8_variable : Cond.code yX8_variable cX8_variable 3 ((some .long)) ∈ BIG := bg6 228 (rfl) rfl
theorem kiyX8_variable : Cond.initialized yX8_variable.cls ∈ BIG := bg1 9 (by decide +kernel) rfl
theorem knyX8_variable : Cond.instanceMethod yX8_variable ∈ BIG := bg6 226 (by decide +kernel) rfl
theorem ksyX8_variable : Cond.selects yX8_variable.cls yX8_variable yX8_variable ∈ BIG := bg6 227 (by decide +kernel) rfl
theorem mwL_45 : Cond.methodLink RL 45 yX8_variable ∈ BIG := bg6 225 (by decide +kernel) rfl
theorem lL_45 : LkV RL 45 8 yX8_variable cX8_variable 3 ((some .long)) 2 := ⟨mwL_45, knyX8_variable, ksyX8_variable, kiyX8_variable, kyX8_variable, ⟨_, rfl, rfl⟩, rfl, by decide +kernel, by decide +kernel, by decide +kernel⟩
/-- RoundedSumsModel.variable -/
theorem vL_45 {E : Ev} {cc : ByteArray} {nL : Nat} {ret : Option FieldType} {R : Room} {cl sl : Nat} {Z : Zt} {pc : Nat} {L st : List Vv} {M : Mm} {N : Nn} {a b : Nat} {x0 : Int} {x1 : Int} {h : Nat} {P : Int → Mm → Nn → Prop} (hd : decode cc pc = .ok (.invokevirtual 45, 3)) (hct : Nat.ble (ctL st) 8 = true) (hR : Nat.ble (h + 1) R.frames = true ∧ Nat.ble (8 + (3 + 11) + 40 * h) R.locals = true) (hcl : Nat.ble cl R.cells = true ∧ Nat.ble sl R.slots = true) (hc : Ct E yX8_variable cX8_variable 3 ((some .long)) (rmH h) [vr (29, a, b), vi x0, vi x1] M N (ql P)) (k : ∀ r M1 N1, R64 r → P r M1 N1 → Go E RL cc nL ret R cl sl Z (pc + 3) L (vl r :: st) M1 N1) : Go E RL cc nL ret R cl sl Z (pc) L (vi x1 :: vi x0 :: vr (29, a, b) :: st) M N := go_callV (As := [vi x0, vi x1]) hd lL_45 rfl rfl rfl hct ⟨rfl, rfl⟩ ⟨Nat.le_of_ble_eq_true hR.1, Nat.le_of_ble_eq_true hR.2⟩ hc hcl (fun r M1 N1 h => by obtain ⟨z, rfl, h1, h⟩ := h; exact k z M1 N1 h1 h)
theorem kyX7_operand : Cond.code yX7_operand cX7_operand 3 ((some .int)) ∈ BIG := bg3 209 (rfl) rfl
theorem kiyX7_operand : Cond.initialized yX7_operand.cls ∈ BIG := bg1 1 (by decide +kernel) rfl
theorem knyX7_operand : Cond.instanceMethod yX7_operand ∈ BIG := bg3 207 (by decide +kernel) rfl
theorem ksyX7_operand : Cond.selects yX7_operand.cls yX7_operand yX7_operand ∈ BIG := bg3 208 (by decide +kernel) rfl
theorem mwL_46 : Cond.methodLink RL 46 yX7_operand ∈ BIG := bg3 206 (by decide +kernel) rfl
theorem lL_46 : LkV RL 46 7 yX7_operand cX7_operand 3 ((some .int)) 2 := ⟨mwL_46, knyX7_operand, ksyX7_operand, kiyX7_operand, kyX7_operand, ⟨_, rfl, rfl⟩, rfl, by decide +kernel, by decide +kernel, by decide +kernel⟩
/-- RoundedSums.operand -/
theorem vL_46 {E : Ev} {cc : ByteArray} {nL : Nat} {ret : Option FieldType} {R : Room} {cl sl : Nat} {Z : Zt} {pc : Nat} {L st : List Vv} {M : Mm} {N : Nn} {a b : Nat} {x0 : Int} {x1 : Int} {h : Nat} {P : Int → Mm → Nn → Prop} (hd : decode cc pc = .ok (.invokevirtual 46, 3)) (hct : Nat.ble (ctL st) 8 = true) (hR : Nat.ble (h + 1) R.frames = true ∧ Nat.ble (8 + (3 + 11) + 40 * h) R.locals = true) (hcl : Nat.ble cl R.cells = true ∧ Nat.ble sl R.slots = true) (hc : Ct E yX7_operand cX7_operand 3 ((some .int)) (rmH h) [vr (3, a, b), vi x0, vi x1] M N (qi P)) (k : ∀ r M1 N1, R32 r → P r M1 N1 → Go E RL cc nL ret R cl sl Z (pc + 3) L (vi r :: st) M1 N1) : Go E RL cc nL ret R cl sl Z (pc) L (vi x1 :: vi x0 :: vr (3, a, b) :: st) M N := go_callV (As := [vi x0, vi x1]) hd lL_46 rfl rfl rfl hct ⟨rfl, rfl⟩ ⟨Nat.le_of_ble_eq_true hR.1, Nat.le_of_ble_eq_true hR.2⟩ hc hcl (fun r M1 N1 h => by obtain ⟨z, rfl, h1, h⟩ := h; exact k z M1 N1 h1 h)
theorem kyX8_operand : Cond.code yX8_operand cX8_operand 3 ((some .int)) ∈ BIG := bg6 239 (rfl) rfl
theorem kiyX8_operand : Cond.initialized yX8_operand.cls ∈ BIG := bg1 9 (by decide +kernel) rfl
theorem knyX8_operand : Cond.instanceMethod yX8_operand ∈ BIG := bg6 237 (by decide +kernel) rfl
theorem ksyX8_operand : Cond.selects yX8_operand.cls yX8_operand yX8_operand ∈ BIG := bg6 238 (by decide +kernel) rfl
theorem mwL_50 : Cond.methodLink RL 50 yX8_operand ∈ BIG := bg6 236 (by decide +kernel) rfl
theorem lL_50 : LkV RL 50 8 yX8_operand cX8_operand 3 ((some .int)) 2 := ⟨mwL_50, knyX8_operand, ksyX8_operand, kiyX8_operand, kyX8_operand, ⟨_, rfl, rfl⟩, rfl, by decide +kernel, by decide +kernel, by decide +kernel⟩
/-- RoundedSumsModel.operand -/
theorem vL_50 {E : Ev} {cc : ByteArray} {nL : Nat} {ret : Option FieldType} {R : Room} {cl sl : Nat} {Z : Zt} {pc : Nat} {L st : List Vv} {M : Mm} {N : Nn} {a b : Nat} {x0 : Int} {x1 : Int} {h : Nat} {P : Int → Mm → Nn → Prop} (hd : decode cc pc = .ok (.invokevirtual 50, 3)) (hct : Nat.ble (ctL st) 8 = true) (hR : Nat.ble (h + 1) R.frames = true ∧ Nat.ble (8 + (3 + 11) + 40 * h) R.locals = true) (hcl : Nat.ble cl R.cells = true ∧ Nat.ble sl R.slots = true) (hc : Ct E yX8_operand cX8_operand 3 ((some .int)) (rmH h) [vr (29, a, b), vi x0, vi x1] M N (qi P)) (k : ∀ r M1 N1, R32 r → P r M1 N1 → Go E RL cc nL ret R cl sl Z (pc + 3) L (vi r :: st) M1 N1) : Go E RL cc nL ret R cl sl Z (pc) L (vi x1 :: vi x0 :: vr (29, a, b) :: st) M N := go_callV (As := [vi x0, vi x1]) hd lL_50 rfl rfl rfl hct ⟨rfl, rfl⟩ ⟨Nat.le_of_ble_eq_true hR.1, Nat.le_of_ble_eq_true hR.2⟩ hc hcl (fun r M1 N1 h => by obtain ⟨z, rfl, h1, h⟩ := h; exact k z M1 N1 h1 h)
theorem kyX7_set : Cond.code yX7_set cX7_set 3 ((some .boolean)) ∈ BIG := bg3 218 (rfl) rfl
theorem kiyX7_set : Cond.initialized yX7_set.cls ∈ BIG := bg1 1 (by decide +kernel) rfl
theorem knyX7_set : Cond.instanceMethod yX7_set ∈ BIG := bg3 216 (by decide +kernel) rfl
theorem ksyX7_set : Cond.selects yX7_set.cls yX7_set yX7_set ∈ BIG := bg3 217 (by decide +kernel) rfl
theorem mwL_51 : Cond.methodLink RL 51 yX7_set ∈ BIG := bg3 215 (by decide +kernel) rfl
theorem lL_51 : LkV RL 51 7 yX7_set cX7_set 3 ((some .boolean)) 2 := ⟨mwL_51, knyX7_set, ksyX7_set, kiyX7_set, kyX7_set, ⟨_, rfl, rfl⟩, rfl, by decide +kernel, by decide +kernel, by decide +kernel⟩
/-- RoundedSums.set -/
theorem vL_51 {E : Ev} {cc : ByteArray} {nL : Nat} {ret : Option FieldType} {R : Room} {cl sl : Nat} {Z : Zt} {pc : Nat} {L st : List Vv} {M : Mm} {N : Nn} {a b : Nat} {x0 : Int} {x1 : Int} {h : Nat} {P : Int → Mm → Nn → Prop} (hd : decode cc pc = .ok (.invokevirtual 51, 3)) (hct : Nat.ble (ctL st) 8 = true) (hR : Nat.ble (h + 1) R.frames = true ∧ Nat.ble (8 + (3 + 11) + 40 * h) R.locals = true) (hcl : Nat.ble cl R.cells = true ∧ Nat.ble sl R.slots = true) (hc : Ct E yX7_set cX7_set 3 ((some .boolean)) (rmH h) [vr (3, a, b), vi x0, vi x1] M N (qi P)) (k : ∀ r M1 N1, R32 r → P r M1 N1 → Go E RL cc nL ret R cl sl Z (pc + 3) L (vi r :: st) M1 N1) : Go E RL cc nL ret R cl sl Z (pc) L (vi x1 :: vi x0 :: vr (3, a, b) :: st) M N := go_callV (As := [vi x0, vi x1]) hd lL_51 rfl rfl rfl hct ⟨rfl, rfl⟩ ⟨Nat.le_of_ble_eq_true hR.1, Nat.le_of_ble_eq_true hR.2⟩ hc hcl (fun r M1 N1 h => by obtain ⟨z, rfl, h1, h⟩ := h; exact k z M1 N1 h1 h)
theorem kyX8_set : Cond.code yX8_set cX8_set 3 ((some .boolean)) ∈ BIG := bg7 10 (rfl) rfl
theorem kiyX8_set : Cond.initialized yX8_set.cls ∈ BIG := bg1 9 (by decide +kernel) rfl
theorem knyX8_set : Cond.instanceMethod yX8_set ∈ BIG := bg7 8 (by decide +kernel) rfl
theorem ksyX8_set : Cond.selects yX8_set.cls yX8_set yX8_set ∈ BIG := bg7 9 (by decide +kernel) rfl
theorem mwL_55 : Cond.methodLink RL 55 yX8_set ∈ BIG := bg7 7 (by decide +kernel) rfl
theorem lL_55 : LkV RL 55 8 yX8_set cX8_set 3 ((some .boolean)) 2 := ⟨mwL_55, knyX8_set, ksyX8_set, kiyX8_set, kyX8_set, ⟨_, rfl, rfl⟩, rfl, by decide +kernel, by decide +kernel, by decide +kernel⟩
/-- RoundedSumsModel.set -/
theorem vL_55 {E : Ev} {cc : ByteArray} {nL : Nat} {ret : Option FieldType} {R : Room} {cl sl : Nat} {Z : Zt} {pc : Nat} {L st : List Vv} {M : Mm} {N : Nn} {a b : Nat} {x0 : Int} {x1 : Int} {h : Nat} {P : Int → Mm → Nn → Prop} (hd : decode cc pc = .ok (.invokevirtual 55, 3)) (hct : Nat.ble (ctL st) 8 = true) (hR : Nat.ble (h + 1) R.frames = true ∧ Nat.ble (8 + (3 + 11) + 40 * h) R.locals = true) (hcl : Nat.ble cl R.cells = true ∧ Nat.ble sl R.slots = true) (hc : Ct E yX8_set cX8_set 3 ((some .boolean)) (rmH h) [vr (29, a, b), vi x0, vi x1] M N (qi P)) (k : ∀ r M1 N1, R32 r → P r M1 N1 → Go E RL cc nL ret R cl sl Z (pc + 3) L (vi r :: st) M1 N1) : Go E RL cc nL ret R cl sl Z (pc) L (vi x1 :: vi x0 :: vr (29, a, b) :: st) M N := go_callV (As := [vi x0, vi x1]) hd lL_55 rfl rfl rfl hct ⟨rfl, rfl⟩ ⟨Nat.le_of_ble_eq_true hR.1, Nat.le_of_ble_eq_true hR.2⟩ hc hcl (fun r M1 N1 h => by obtain ⟨z, rfl, h1, h⟩ := h; exact k z M1 N1 h1 h)
theorem kyX7_at : Cond.code yX7_at cX7_at 4 ((some .long)) ∈ BIG := bg3 226 (rfl) rfl
theorem kiyX7_at : Cond.initialized yX7_at.cls ∈ BIG := bg1 1 (by decide +kernel) rfl
theorem knyX7_at : Cond.instanceMethod yX7_at ∈ BIG := bg3 224 (by decide +kernel) rfl
theorem ksyX7_at : Cond.selects yX7_at.cls yX7_at yX7_at ∈ BIG := bg3 225 (by decide +kernel) rfl
theorem mwL_56 : Cond.methodLink RL 56 yX7_at ∈ BIG := bg3 223 (by decide +kernel) rfl
theorem lL_56 : LkV RL 56 7 yX7_at cX7_at 4 ((some .long)) 2 := ⟨mwL_56, knyX7_at, ksyX7_at, kiyX7_at, kyX7_at, ⟨_, rfl, rfl⟩, rfl, by decide +kernel, by decide +kernel, by decide +kernel⟩
/-- RoundedSums.at -/
theorem vL_56 {E : Ev} {cc : ByteArray} {nL : Nat} {ret : Option FieldType} {R : Room} {cl sl : Nat} {Z : Zt} {pc : Nat} {L st : List Vv} {M : Mm} {N : Nn} {a b : Nat} {x0 : Int} {x1 : Int} {h : Nat} {P : Int → Mm → Nn → Prop} (hd : decode cc pc = .ok (.invokevirtual 56, 3)) (hct : Nat.ble (ctL st) 8 = true) (hR : Nat.ble (h + 1) R.frames = true ∧ Nat.ble (8 + (4 + 11) + 40 * h) R.locals = true) (hcl : Nat.ble cl R.cells = true ∧ Nat.ble sl R.slots = true) (hc : Ct E yX7_at cX7_at 4 ((some .long)) (rmH h) [vr (3, a, b), vi x0, vi x1] M N (ql P)) (k : ∀ r M1 N1, R64 r → P r M1 N1 → Go E RL cc nL ret R cl sl Z (pc + 3) L (vl r :: st) M1 N1) : Go E RL cc nL ret R cl sl Z (pc) L (vi x1 :: vi x0 :: vr (3, a, b) :: st) M N := go_callV (As := [vi x0, vi x1]) hd lL_56 rfl rfl rfl hct ⟨rfl, rfl⟩ ⟨Nat.le_of_ble_eq_true hR.1, Nat.le_of_ble_eq_true hR.2⟩ hc hcl (fun r M1 N1 h => by obtain ⟨z, rfl, h1, h⟩ := h; exact k z M1 N1 h1 h)
theorem kyX8_at : Cond.code yX8_at cX8_at 3 ((some .long)) ∈ BIG := bg7 21 (rfl) rfl
theorem kiyX8_at : Cond.initialized yX8_at.cls ∈ BIG := bg1 9 (by decide +kernel) rfl
theorem knyX8_at : Cond.instanceMethod yX8_at ∈ BIG := bg7 19 (by decide +kernel) rfl
theorem ksyX8_at : Cond.selects yX8_at.cls yX8_at yX8_at ∈ BIG := bg7 20 (by decide +kernel) rfl
theorem mwL_59 : Cond.methodLink RL 59 yX8_at ∈ BIG := bg7 18 (by decide +kernel) rfl
theorem lL_59 : LkV RL 59 8 yX8_at cX8_at 3 ((some .long)) 2 := ⟨mwL_59, knyX8_at, ksyX8_at, kiyX8_at, kyX8_at, ⟨_, rfl, rfl⟩, rfl, by decide +kernel, by decide +kernel, by decide +kernel⟩
/-- RoundedSumsModel.at -/
theorem vL_59 {E : Ev} {cc : ByteArray} {nL : Nat} {ret : Option FieldType} {R : Room} {cl sl : Nat} {Z : Zt} {pc : Nat} {L st : List Vv} {M : Mm} {N : Nn} {a b : Nat} {x0 : Int} {x1 : Int} {h : Nat} {P : Int → Mm → Nn → Prop} (hd : decode cc pc = .ok (.invokevirtual 59, 3)) (hct : Nat.ble (ctL st) 8 = true) (hR : Nat.ble (h + 1) R.frames = true ∧ Nat.ble (8 + (3 + 11) + 40 * h) R.locals = true) (hcl : Nat.ble cl R.cells = true ∧ Nat.ble sl R.slots = true) (hc : Ct E yX8_at cX8_at 3 ((some .long)) (rmH h) [vr (29, a, b), vi x0, vi x1] M N (ql P)) (k : ∀ r M1 N1, R64 r → P r M1 N1 → Go E RL cc nL ret R cl sl Z (pc + 3) L (vl r :: st) M1 N1) : Go E RL cc nL ret R cl sl Z (pc) L (vi x1 :: vi x0 :: vr (29, a, b) :: st) M N := go_callV (As := [vi x0, vi x1]) hd lL_59 rfl rfl rfl hct ⟨rfl, rfl⟩ ⟨Nat.le_of_ble_eq_true hR.1, Nat.le_of_ble_eq_true hR.2⟩ hc hcl (fun r M1 N1 h => by obtain ⟨z, rfl, h1, h⟩ := h; exact k z M1 N1 h1 h)
theorem kyX7_went : Cond.code yX7_went cX7_went 2 ((some .int)) ∈ BIG := bg4 9 (rfl) rfl
theorem kiyX7_went : Cond.initialized yX7_went.cls ∈ BIG := bg1 1 (by decide +kernel) rfl
theorem knyX7_went : Cond.instanceMethod yX7_went ∈ BIG := bg4 7 (by decide +kernel) rfl
theorem ksyX7_went : Cond.selects yX7_went.cls yX7_went yX7_went ∈ BIG := bg4 8 (by decide +kernel) rfl
theorem mwL_60 : Cond.methodLink RL 60 yX7_went ∈ BIG := bg4 6 (by decide +kernel) rfl
theorem lL_60 : LkV RL 60 7 yX7_went cX7_went 2 ((some .int)) 1 := ⟨mwL_60, knyX7_went, ksyX7_went, kiyX7_went, kyX7_went, ⟨_, rfl, rfl⟩, rfl, by decide +kernel, by decide +kernel, by decide +kernel⟩
/-- RoundedSums.went -/
theorem vL_60 {E : Ev} {cc : ByteArray} {nL : Nat} {ret : Option FieldType} {R : Room} {cl sl : Nat} {Z : Zt} {pc : Nat} {L st : List Vv} {M : Mm} {N : Nn} {a b : Nat} {x0 : Int} {h : Nat} {P : Int → Mm → Nn → Prop} (hd : decode cc pc = .ok (.invokevirtual 60, 3)) (hct : Nat.ble (ctL st) 8 = true) (hR : Nat.ble (h + 1) R.frames = true ∧ Nat.ble (8 + (2 + 11) + 40 * h) R.locals = true) (hcl : Nat.ble cl R.cells = true ∧ Nat.ble sl R.slots = true) (hc : Ct E yX7_went cX7_went 2 ((some .int)) (rmH h) [vr (3, a, b), vi x0] M N (qi P)) (k : ∀ r M1 N1, R32 r → P r M1 N1 → Go E RL cc nL ret R cl sl Z (pc + 3) L (vi r :: st) M1 N1) : Go E RL cc nL ret R cl sl Z (pc) L (vi x0 :: vr (3, a, b) :: st) M N := go_callV (As := [vi x0]) hd lL_60 rfl rfl rfl hct ⟨rfl, rfl⟩ ⟨Nat.le_of_ble_eq_true hR.1, Nat.le_of_ble_eq_true hR.2⟩ hc hcl (fun r M1 N1 h => by obtain ⟨z, rfl, h1, h⟩ := h; exact k z M1 N1 h1 h)
theorem kyX8_went : Cond.code yX8_went cX8_went 2 ((some .int)) ∈ BIG := bg7 44 (rfl) rfl
theorem kiyX8_went : Cond.initialized yX8_went.cls ∈ BIG := bg1 9 (by decide +kernel) rfl
theorem knyX8_went : Cond.instanceMethod yX8_went ∈ BIG := bg7 42 (by decide +kernel) rfl
theorem ksyX8_went : Cond.selects yX8_went.cls yX8_went yX8_went ∈ BIG := bg7 43 (by decide +kernel) rfl
theorem mwL_63 : Cond.methodLink RL 63 yX8_went ∈ BIG := bg7 41 (by decide +kernel) rfl
theorem lL_63 : LkV RL 63 8 yX8_went cX8_went 2 ((some .int)) 1 := ⟨mwL_63, knyX8_went, ksyX8_went, kiyX8_went, kyX8_went, ⟨_, rfl, rfl⟩, rfl, by decide +kernel, by decide +kernel, by decide +kernel⟩
/-- RoundedSumsModel.went -/
theorem vL_63 {E : Ev} {cc : ByteArray} {nL : Nat} {ret : Option FieldType} {R : Room} {cl sl : Nat} {Z : Zt} {pc : Nat} {L st : List Vv} {M : Mm} {N : Nn} {a b : Nat} {x0 : Int} {h : Nat} {P : Int → Mm → Nn → Prop} (hd : decode cc pc = .ok (.invokevirtual 63, 3)) (hct : Nat.ble (ctL st) 8 = true) (hR : Nat.ble (h + 1) R.frames = true ∧ Nat.ble (8 + (2 + 11) + 40 * h) R.locals = true) (hcl : Nat.ble cl R.cells = true ∧ Nat.ble sl R.slots = true) (hc : Ct E yX8_went cX8_went 2 ((some .int)) (rmH h) [vr (29, a, b), vi x0] M N (qi P)) (k : ∀ r M1 N1, R32 r → P r M1 N1 → Go E RL cc nL ret R cl sl Z (pc + 3) L (vi r :: st) M1 N1) : Go E RL cc nL ret R cl sl Z (pc) L (vi x0 :: vr (29, a, b) :: st) M N := go_callV (As := [vi x0]) hd lL_63 rfl rfl rfl hct ⟨rfl, rfl⟩ ⟨Nat.le_of_ble_eq_true hR.1, Nat.le_of_ble_eq_true hR.2⟩ hc hcl (fun r M1 N1 h => by obtain ⟨z, rfl, h1, h⟩ := h; exact k z M1 N1 h1 h)
theorem kyX7_form : Cond.code yX7_form cX7_form 5 ((some .long)) ∈ BIG := bg4 21 (rfl) rfl
theorem kiyX7_form : Cond.initialized yX7_form.cls ∈ BIG := bg1 1 (by decide +kernel) rfl
theorem knyX7_form : Cond.instanceMethod yX7_form ∈ BIG := bg4 19 (by decide +kernel) rfl
theorem ksyX7_form : Cond.selects yX7_form.cls yX7_form yX7_form ∈ BIG := bg4 20 (by decide +kernel) rfl
theorem mwL_64 : Cond.methodLink RL 64 yX7_form ∈ BIG := bg4 18 (by decide +kernel) rfl
theorem lL_64 : LkV RL 64 7 yX7_form cX7_form 5 ((some .long)) 3 := ⟨mwL_64, knyX7_form, ksyX7_form, kiyX7_form, kyX7_form, ⟨_, rfl, rfl⟩, rfl, by decide +kernel, by decide +kernel, by decide +kernel⟩
/-- RoundedSums.form -/
theorem vL_64 {E : Ev} {cc : ByteArray} {nL : Nat} {ret : Option FieldType} {R : Room} {cl sl : Nat} {Z : Zt} {pc : Nat} {L st : List Vv} {M : Mm} {N : Nn} {a b : Nat} {x0 : Int} {x1 : Int} {x2 : Int} {h : Nat} {P : Int → Mm → Nn → Prop} (hd : decode cc pc = .ok (.invokevirtual 64, 3)) (hct : Nat.ble (ctL st) 8 = true) (hR : Nat.ble (h + 1) R.frames = true ∧ Nat.ble (8 + (5 + 11) + 40 * h) R.locals = true) (hcl : Nat.ble cl R.cells = true ∧ Nat.ble sl R.slots = true) (hc : Ct E yX7_form cX7_form 5 ((some .long)) (rmH h) [vr (3, a, b), vi x0, vi x1, vi x2] M N (ql P)) (k : ∀ r M1 N1, R64 r → P r M1 N1 → Go E RL cc nL ret R cl sl Z (pc + 3) L (vl r :: st) M1 N1) : Go E RL cc nL ret R cl sl Z (pc) L (vi x2 :: vi x1 :: vi x0 :: vr (3, a, b) :: st) M N := go_callV (As := [vi x0, vi x1, vi x2]) hd lL_64 rfl rfl rfl hct ⟨rfl, rfl⟩ ⟨Nat.le_of_ble_eq_true hR.1, Nat.le_of_ble_eq_true hR.2⟩ hc hcl (fun r M1 N1 h => by obtain ⟨z, rfl, h1, h⟩ := h; exact k z M1 N1 h1 h)
theorem kyX8_form : Cond.code yX8_form cX8_form 4 ((some .long)) ∈ BIG := bg7 56 (rfl) rfl
theorem kiyX8_form : Cond.initialized yX8_form.cls ∈ BIG := bg1 9 (by decide +kernel) rfl
theorem knyX8_form : Cond.instanceMethod yX8_form ∈ BIG := bg7 54 (by decide +kernel) rfl
theorem ksyX8_form : Cond.selects yX8_form.cls yX8_form yX8_form ∈ BIG := bg7 55 (by decide +kernel) rfl
theorem mwL_68 : Cond.methodLink RL 68 yX8_form ∈ BIG := bg7 53 (by decide +kernel) rfl
theorem lL_68 : LkV RL 68 8 yX8_form cX8_form 4 ((some .long)) 3 := ⟨mwL_68, knyX8_form, ksyX8_form, kiyX8_form, kyX8_form, ⟨_, rfl, rfl⟩, rfl, by decide +kernel, by decide +kernel, by decide +kernel⟩
/-- RoundedSumsModel.form -/
theorem vL_68 {E : Ev} {cc : ByteArray} {nL : Nat} {ret : Option FieldType} {R : Room} {cl sl : Nat} {Z : Zt} {pc : Nat} {L st : List Vv} {M : Mm} {N : Nn} {a b : Nat} {x0 : Int} {x1 : Int} {x2 : Int} {h : Nat} {P : Int → Mm → Nn → Prop} (hd : decode cc pc = .ok (.invokevirtual 68, 3)) (hct : Nat.ble (ctL st) 8 = true) (hR : Nat.ble (h + 1) R.frames = true ∧ Nat.ble (8 + (4 + 11) + 40 * h) R.locals = true) (hcl : Nat.ble cl R.cells = true ∧ Nat.ble sl R.slots = true) (hc : Ct E yX8_form cX8_form 4 ((some .long)) (rmH h) [vr (29, a, b), vi x0, vi x1, vi x2] M N (ql P)) (k : ∀ r M1 N1, R64 r → P r M1 N1 → Go E RL cc nL ret R cl sl Z (pc + 3) L (vl r :: st) M1 N1) : Go E RL cc nL ret R cl sl Z (pc) L (vi x2 :: vi x1 :: vi x0 :: vr (29, a, b) :: st) M N := go_callV (As := [vi x0, vi x1, vi x2]) hd lL_68 rfl rfl rfl hct ⟨rfl, rfl⟩ ⟨Nat.le_of_ble_eq_true hR.1, Nat.le_of_ble_eq_true hR.2⟩ hc hcl (fun r M1 N1 h => by obtain ⟨z, rfl, h1, h⟩ := h; exact k z M1 N1 h1 h)
theorem kyX7_reach : Cond.code yX7_reach cX7_reach 5 ((some .long)) ∈ BIG := bg4 29 (rfl) rfl
theorem kiyX7_reach : Cond.initialized yX7_reach.cls ∈ BIG := bg1 1 (by decide +kernel) rfl
theorem knyX7_reach : Cond.instanceMethod yX7_reach ∈ BIG := bg4 27 (by decide +kernel) rfl
theorem ksyX7_reach : Cond.selects yX7_reach.cls yX7_reach yX7_reach ∈ BIG := bg4 28 (by decide +kernel) rfl
theorem mwL_69 : Cond.methodLink RL 69 yX7_reach ∈ BIG := bg4 26 (by decide +kernel) rfl
theorem lL_69 : LkV RL 69 7 yX7_reach cX7_reach 5 ((some .long)) 3 := ⟨mwL_69, knyX7_reach, ksyX7_reach, kiyX7_reach, kyX7_reach, ⟨_, rfl, rfl⟩, rfl, by decide +kernel, by decide +kernel, by decide +kernel⟩
/-- RoundedSums.reach -/
theorem vL_69 {E : Ev} {cc : ByteArray} {nL : Nat} {ret : Option FieldType} {R : Room} {cl sl : Nat} {Z : Zt} {pc : Nat} {L st : List Vv} {M : Mm} {N : Nn} {a b : Nat} {x0 : Int} {x1 : Int} {x2 : Int} {h : Nat} {P : Int → Mm → Nn → Prop} (hd : decode cc pc = .ok (.invokevirtual 69, 3)) (hct : Nat.ble (ctL st) 8 = true) (hR : Nat.ble (h + 1) R.frames = true ∧ Nat.ble (8 + (5 + 11) + 40 * h) R.locals = true) (hcl : Nat.ble cl R.cells = true ∧ Nat.ble sl R.slots = true) (hc : Ct E yX7_reach cX7_reach 5 ((some .long)) (rmH h) [vr (3, a, b), vi x0, vi x1, vi x2] M N (ql P)) (k : ∀ r M1 N1, R64 r → P r M1 N1 → Go E RL cc nL ret R cl sl Z (pc + 3) L (vl r :: st) M1 N1) : Go E RL cc nL ret R cl sl Z (pc) L (vi x2 :: vi x1 :: vi x0 :: vr (3, a, b) :: st) M N := go_callV (As := [vi x0, vi x1, vi x2]) hd lL_69 rfl rfl rfl hct ⟨rfl, rfl⟩ ⟨Nat.le_of_ble_eq_true hR.1, Nat.le_of_ble_eq_true hR.2⟩ hc hcl (fun r M1 N1 h => by obtain ⟨z, rfl, h1, h⟩ := h; exact k z M1 N1 h1 h)
theorem kyX8_reach : Cond.code yX8_reach cX8_reach 5 ((some .long)) ∈ BIG := bg7 68 (rfl) rfl
theorem kiyX8_reach : Cond.initialized yX8_reach.cls ∈ BIG := bg1 9 (by decide +kernel) rfl
theorem knyX8_reach : Cond.instanceMethod yX8_reach ∈ BIG := bg7 66 (by decide +kernel) rfl
theorem ksyX8_reach : Cond.selects yX8_reach.cls yX8_reach yX8_reach ∈ BIG := bg7 67 (by decide +kernel) rfl
theorem mwL_72 : Cond.methodLink RL 72 yX8_reach ∈ BIG := bg7 65 (by decide +kernel) rfl
theorem lL_72 : LkV RL 72 8 yX8_reach cX8_reach 5 ((some .long)) 3 := ⟨mwL_72, knyX8_reach, ksyX8_reach, kiyX8_reach, kyX8_reach, ⟨_, rfl, rfl⟩, rfl, by decide +kernel, by decide +kernel, by decide +kernel⟩
/-- RoundedSumsModel.reach -/
theorem vL_72 {E : Ev} {cc : ByteArray} {nL : Nat} {ret : Option FieldType} {R : Room} {cl sl : Nat} {Z : Zt} {pc : Nat} {L st : List Vv} {M : Mm} {N : Nn} {a b : Nat} {x0 : Int} {x1 : Int} {x2 : Int} {h : Nat} {P : Int → Mm → Nn → Prop} (hd : decode cc pc = .ok (.invokevirtual 72, 3)) (hct : Nat.ble (ctL st) 8 = true) (hR : Nat.ble (h + 1) R.frames = true ∧ Nat.ble (8 + (5 + 11) + 40 * h) R.locals = true) (hcl : Nat.ble cl R.cells = true ∧ Nat.ble sl R.slots = true) (hc : Ct E yX8_reach cX8_reach 5 ((some .long)) (rmH h) [vr (29, a, b), vi x0, vi x1, vi x2] M N (ql P)) (k : ∀ r M1 N1, R64 r → P r M1 N1 → Go E RL cc nL ret R cl sl Z (pc + 3) L (vl r :: st) M1 N1) : Go E RL cc nL ret R cl sl Z (pc) L (vi x2 :: vi x1 :: vi x0 :: vr (29, a, b) :: st) M N := go_callV (As := [vi x0, vi x1, vi x2]) hd lL_72 rfl rfl rfl hct ⟨rfl, rfl⟩ ⟨Nat.le_of_ble_eq_true hR.1, Nat.le_of_ble_eq_true hR.2⟩ hc hcl (fun r M1 N1 h => by obtain ⟨z, rfl, h1, h⟩ := h; exact k z M1 N1 h1 h)
theorem kyX7_bound : Cond.code yX7_bound cX7_bound 2 ((some .long)) ∈ BIG := bg4 36 (rfl) rfl
theorem kiyX7_bound : Cond.initialized yX7_bound.cls ∈ BIG := bg1 1 (by decide +kernel) rfl
theorem knyX7_bound : Cond.instanceMethod yX7_bound ∈ BIG := bg4 34 (by decide +kernel) rfl
theorem ksyX7_bound : Cond.selects yX7_bound.cls yX7_bound yX7_bound ∈ BIG := bg4 35 (by decide +kernel) rfl
theorem mwL_73 : Cond.methodLink RL 73 yX7_bound ∈ BIG := bg4 33 (by decide +kernel) rfl
theorem lL_73 : LkV RL 73 7 yX7_bound cX7_bound 2 ((some .long)) 1 := ⟨mwL_73, knyX7_bound, ksyX7_bound, kiyX7_bound, kyX7_bound, ⟨_, rfl, rfl⟩, rfl, by decide +kernel, by decide +kernel, by decide +kernel⟩
/-- RoundedSums.bound -/
theorem vL_73 {E : Ev} {cc : ByteArray} {nL : Nat} {ret : Option FieldType} {R : Room} {cl sl : Nat} {Z : Zt} {pc : Nat} {L st : List Vv} {M : Mm} {N : Nn} {a b : Nat} {x0 : Int} {h : Nat} {P : Int → Mm → Nn → Prop} (hd : decode cc pc = .ok (.invokevirtual 73, 3)) (hct : Nat.ble (ctL st) 8 = true) (hR : Nat.ble (h + 1) R.frames = true ∧ Nat.ble (8 + (2 + 11) + 40 * h) R.locals = true) (hcl : Nat.ble cl R.cells = true ∧ Nat.ble sl R.slots = true) (hc : Ct E yX7_bound cX7_bound 2 ((some .long)) (rmH h) [vr (3, a, b), vi x0] M N (ql P)) (k : ∀ r M1 N1, R64 r → P r M1 N1 → Go E RL cc nL ret R cl sl Z (pc + 3) L (vl r :: st) M1 N1) : Go E RL cc nL ret R cl sl Z (pc) L (vi x0 :: vr (3, a, b) :: st) M N := go_callV (As := [vi x0]) hd lL_73 rfl rfl rfl hct ⟨rfl, rfl⟩ ⟨Nat.le_of_ble_eq_true hR.1, Nat.le_of_ble_eq_true hR.2⟩ hc hcl (fun r M1 N1 h => by obtain ⟨z, rfl, h1, h⟩ := h; exact k z M1 N1 h1 h)
theorem kyX8_bound : Cond.code yX8_bound cX8_bound 2 ((some .long)) ∈ BIG := bg7 72 (rfl) rfl
theorem kiyX8_bound : Cond.initialized yX8_bound.cls ∈ BIG := bg1 9 (by decide +kernel) rfl
theorem knyX8_bound : Cond.instanceMethod yX8_bound ∈ BIG := bg7 70 (by decide +kernel) rfl
theorem ksyX8_bound : Cond.selects yX8_bound.cls yX8_bound yX8_bound ∈ BIG := bg7 71 (by decide +kernel) rfl
theorem mwL_77 : Cond.methodLink RL 77 yX8_bound ∈ BIG := bg7 69 (by decide +kernel) rfl
theorem lL_77 : LkV RL 77 8 yX8_bound cX8_bound 2 ((some .long)) 1 := ⟨mwL_77, knyX8_bound, ksyX8_bound, kiyX8_bound, kyX8_bound, ⟨_, rfl, rfl⟩, rfl, by decide +kernel, by decide +kernel, by decide +kernel⟩
/-- RoundedSumsModel.bound -/
theorem vL_77 {E : Ev} {cc : ByteArray} {nL : Nat} {ret : Option FieldType} {R : Room} {cl sl : Nat} {Z : Zt} {pc : Nat} {L st : List Vv} {M : Mm} {N : Nn} {a b : Nat} {x0 : Int} {h : Nat} {P : Int → Mm → Nn → Prop} (hd : decode cc pc = .ok (.invokevirtual 77, 3)) (hct : Nat.ble (ctL st) 8 = true) (hR : Nat.ble (h + 1) R.frames = true ∧ Nat.ble (8 + (2 + 11) + 40 * h) R.locals = true) (hcl : Nat.ble cl R.cells = true ∧ Nat.ble sl R.slots = true) (hc : Ct E yX8_bound cX8_bound 2 ((some .long)) (rmH h) [vr (29, a, b), vi x0] M N (ql P)) (k : ∀ r M1 N1, R64 r → P r M1 N1 → Go E RL cc nL ret R cl sl Z (pc + 3) L (vl r :: st) M1 N1) : Go E RL cc nL ret R cl sl Z (pc) L (vi x0 :: vr (29, a, b) :: st) M N := go_callV (As := [vi x0]) hd lL_77 rfl rfl rfl hct ⟨rfl, rfl⟩ ⟨Nat.le_of_ble_eq_true hR.1, Nat.le_of_ble_eq_true hR.2⟩ hc hcl (fun r M1 N1 h => by obtain ⟨z, rfl, h1, h⟩ := h; exact k z M1 N1 h1 h)
theorem kyX7_noise : Cond.code yX7_noise cX7_noise 3 ((some .int)) ∈ BIG := bg4 44 (rfl) rfl
theorem kiyX7_noise : Cond.initialized yX7_noise.cls ∈ BIG := bg1 1 (by decide +kernel) rfl
theorem knyX7_noise : Cond.instanceMethod yX7_noise ∈ BIG := bg4 42 (by decide +kernel) rfl
theorem ksyX7_noise : Cond.selects yX7_noise.cls yX7_noise yX7_noise ∈ BIG := bg4 43 (by decide +kernel) rfl
theorem mwL_78 : Cond.methodLink RL 78 yX7_noise ∈ BIG := bg4 41 (by decide +kernel) rfl
theorem lL_78 : LkV RL 78 7 yX7_noise cX7_noise 3 ((some .int)) 2 := ⟨mwL_78, knyX7_noise, ksyX7_noise, kiyX7_noise, kyX7_noise, ⟨_, rfl, rfl⟩, rfl, by decide +kernel, by decide +kernel, by decide +kernel⟩
/-- RoundedSums.noise -/
theorem vL_78 {E : Ev} {cc : ByteArray} {nL : Nat} {ret : Option FieldType} {R : Room} {cl sl : Nat} {Z : Zt} {pc : Nat} {L st : List Vv} {M : Mm} {N : Nn} {a b : Nat} {x0 : Int} {x1 : Int} {h : Nat} {P : Int → Mm → Nn → Prop} (hd : decode cc pc = .ok (.invokevirtual 78, 3)) (hct : Nat.ble (ctL st) 8 = true) (hR : Nat.ble (h + 1) R.frames = true ∧ Nat.ble (8 + (3 + 11) + 40 * h) R.locals = true) (hcl : Nat.ble cl R.cells = true ∧ Nat.ble sl R.slots = true) (hc : Ct E yX7_noise cX7_noise 3 ((some .int)) (rmH h) [vr (3, a, b), vi x0, vi x1] M N (qi P)) (k : ∀ r M1 N1, R32 r → P r M1 N1 → Go E RL cc nL ret R cl sl Z (pc + 3) L (vi r :: st) M1 N1) : Go E RL cc nL ret R cl sl Z (pc) L (vi x1 :: vi x0 :: vr (3, a, b) :: st) M N := go_callV (As := [vi x0, vi x1]) hd lL_78 rfl rfl rfl hct ⟨rfl, rfl⟩ ⟨Nat.le_of_ble_eq_true hR.1, Nat.le_of_ble_eq_true hR.2⟩ hc hcl (fun r M1 N1 h => by obtain ⟨z, rfl, h1, h⟩ := h; exact k z M1 N1 h1 h)
theorem kyX8_noise : Cond.code yX8_noise cX8_noise 3 ((some .int)) ∈ BIG := bg7 80 (rfl) rfl
theorem kiyX8_noise : Cond.initialized yX8_noise.cls ∈ BIG := bg1 9 (by decide +kernel) rfl
theorem knyX8_noise : Cond.instanceMethod yX8_noise ∈ BIG := bg7 78 (by decide +kernel) rfl
theorem ksyX8_noise : Cond.selects yX8_noise.cls yX8_noise yX8_noise ∈ BIG := bg7 79 (by decide +kernel) rfl
theorem mwL_81 : Cond.methodLink RL 81 yX8_noise ∈ BIG := bg7 77 (by decide +kernel) rfl
theorem lL_81 : LkV RL 81 8 yX8_noise cX8_noise 3 ((some .int)) 2 := ⟨mwL_81, knyX8_noise, ksyX8_noise, kiyX8_noise, kyX8_noise, ⟨_, rfl, rfl⟩, rfl, by decide +kernel, by decide +kernel, by decide +kernel⟩
/-- RoundedSumsModel.noise -/
theorem vL_81 {E : Ev} {cc : ByteArray} {nL : Nat} {ret : Option FieldType} {R : Room} {cl sl : Nat} {Z : Zt} {pc : Nat} {L st : List Vv} {M : Mm} {N : Nn} {a b : Nat} {x0 : Int} {x1 : Int} {h : Nat} {P : Int → Mm → Nn → Prop} (hd : decode cc pc = .ok (.invokevirtual 81, 3)) (hct : Nat.ble (ctL st) 8 = true) (hR : Nat.ble (h + 1) R.frames = true ∧ Nat.ble (8 + (3 + 11) + 40 * h) R.locals = true) (hcl : Nat.ble cl R.cells = true ∧ Nat.ble sl R.slots = true) (hc : Ct E yX8_noise cX8_noise 3 ((some .int)) (rmH h) [vr (29, a, b), vi x0, vi x1] M N (qi P)) (k : ∀ r M1 N1, R32 r → P r M1 N1 → Go E RL cc nL ret R cl sl Z (pc + 3) L (vi r :: st) M1 N1) : Go E RL cc nL ret R cl sl Z (pc) L (vi x1 :: vi x0 :: vr (29, a, b) :: st) M N := go_callV (As := [vi x0, vi x1]) hd lL_81 rfl rfl rfl hct ⟨rfl, rfl⟩ ⟨Nat.le_of_ble_eq_true hR.1, Nat.le_of_ble_eq_true hR.2⟩ hc hcl (fun r M1 N1 h => by obtain ⟨z, rfl, h1, h⟩ := h; exact k z M1 N1 h1 h)
theorem kyX7_shared : Cond.code yX7_shared cX7_shared 3 ((some .int)) ∈ BIG := bg4 48 (rfl) rfl
theorem kiyX7_shared : Cond.initialized yX7_shared.cls ∈ BIG := bg1 1 (by decide +kernel) rfl
theorem knyX7_shared : Cond.instanceMethod yX7_shared ∈ BIG := bg4 46 (by decide +kernel) rfl
theorem ksyX7_shared : Cond.selects yX7_shared.cls yX7_shared yX7_shared ∈ BIG := bg4 47 (by decide +kernel) rfl
theorem mwL_82 : Cond.methodLink RL 82 yX7_shared ∈ BIG := bg4 45 (by decide +kernel) rfl
theorem lL_82 : LkV RL 82 7 yX7_shared cX7_shared 3 ((some .int)) 2 := ⟨mwL_82, knyX7_shared, ksyX7_shared, kiyX7_shared, kyX7_shared, ⟨_, rfl, rfl⟩, rfl, by decide +kernel, by decide +kernel, by decide +kernel⟩
/-- RoundedSums.shared -/
theorem vL_82 {E : Ev} {cc : ByteArray} {nL : Nat} {ret : Option FieldType} {R : Room} {cl sl : Nat} {Z : Zt} {pc : Nat} {L st : List Vv} {M : Mm} {N : Nn} {a b : Nat} {x0 : Int} {x1 : Int} {h : Nat} {P : Int → Mm → Nn → Prop} (hd : decode cc pc = .ok (.invokevirtual 82, 3)) (hct : Nat.ble (ctL st) 8 = true) (hR : Nat.ble (h + 1) R.frames = true ∧ Nat.ble (8 + (3 + 11) + 40 * h) R.locals = true) (hcl : Nat.ble cl R.cells = true ∧ Nat.ble sl R.slots = true) (hc : Ct E yX7_shared cX7_shared 3 ((some .int)) (rmH h) [vr (3, a, b), vi x0, vi x1] M N (qi P)) (k : ∀ r M1 N1, R32 r → P r M1 N1 → Go E RL cc nL ret R cl sl Z (pc + 3) L (vi r :: st) M1 N1) : Go E RL cc nL ret R cl sl Z (pc) L (vi x1 :: vi x0 :: vr (3, a, b) :: st) M N := go_callV (As := [vi x0, vi x1]) hd lL_82 rfl rfl rfl hct ⟨rfl, rfl⟩ ⟨Nat.le_of_ble_eq_true hR.1, Nat.le_of_ble_eq_true hR.2⟩ hc hcl (fun r M1 N1 h => by obtain ⟨z, rfl, h1, h⟩ := h; exact k z M1 N1 h1 h)
theorem kyX8_shared : Cond.code yX8_shared cX8_shared 5 ((some .int)) ∈ BIG := bg7 84 (rfl) rfl
theorem kiyX8_shared : Cond.initialized yX8_shared.cls ∈ BIG := bg1 9 (by decide +kernel) rfl
theorem knyX8_shared : Cond.instanceMethod yX8_shared ∈ BIG := bg7 82 (by decide +kernel) rfl
theorem ksyX8_shared : Cond.selects yX8_shared.cls yX8_shared yX8_shared ∈ BIG := bg7 83 (by decide +kernel) rfl
theorem mwL_85 : Cond.methodLink RL 85 yX8_shared ∈ BIG := bg7 81 (by decide +kernel) rfl
theorem lL_85 : LkV RL 85 8 yX8_shared cX8_shared 5 ((some .int)) 2 := ⟨mwL_85, knyX8_shared, ksyX8_shared, kiyX8_shared, kyX8_shared, ⟨_, rfl, rfl⟩, rfl, by decide +kernel, by decide +kernel, by decide +kernel⟩
/-- RoundedSumsModel.shared -/
theorem vL_85 {E : Ev} {cc : ByteArray} {nL : Nat} {ret : Option FieldType} {R : Room} {cl sl : Nat} {Z : Zt} {pc : Nat} {L st : List Vv} {M : Mm} {N : Nn} {a b : Nat} {x0 : Int} {x1 : Int} {h : Nat} {P : Int → Mm → Nn → Prop} (hd : decode cc pc = .ok (.invokevirtual 85, 3)) (hct : Nat.ble (ctL st) 8 = true) (hR : Nat.ble (h + 1) R.frames = true ∧ Nat.ble (8 + (5 + 11) + 40 * h) R.locals = true) (hcl : Nat.ble cl R.cells = true ∧ Nat.ble sl R.slots = true) (hc : Ct E yX8_shared cX8_shared 5 ((some .int)) (rmH h) [vr (29, a, b), vi x0, vi x1] M N (qi P)) (k : ∀ r M1 N1, R32 r → P r M1 N1 → Go E RL cc nL ret R cl sl Z (pc + 3) L (vi r :: st) M1 N1) : Go E RL cc nL ret R cl sl Z (pc) L (vi x1 :: vi x0 :: vr (29, a, b) :: st) M N := go_callV (As := [vi x0, vi x1]) hd lL_85 rfl rfl rfl hct ⟨rfl, rfl⟩ ⟨Nat.le_of_ble_eq_true hR.1, Nat.le_of_ble_eq_true hR.2⟩ hc hcl (fun r M1 N1 h => by obtain ⟨z, rfl, h1, h⟩ := h; exact k z M1 N1 h1 h)
theorem kyX7_part : Cond.code yX7_part cX7_part 3 ((some .long)) ∈ BIG := bg4 56 (rfl) rfl
theorem kiyX7_part : Cond.initialized yX7_part.cls ∈ BIG := bg1 1 (by decide +kernel) rfl
theorem knyX7_part : Cond.instanceMethod yX7_part ∈ BIG := bg4 54 (by decide +kernel) rfl
theorem ksyX7_part : Cond.selects yX7_part.cls yX7_part yX7_part ∈ BIG := bg4 55 (by decide +kernel) rfl
theorem mwL_86 : Cond.methodLink RL 86 yX7_part ∈ BIG := bg4 53 (by decide +kernel) rfl
theorem lL_86 : LkV RL 86 7 yX7_part cX7_part 3 ((some .long)) 2 := ⟨mwL_86, knyX7_part, ksyX7_part, kiyX7_part, kyX7_part, ⟨_, rfl, rfl⟩, rfl, by decide +kernel, by decide +kernel, by decide +kernel⟩
/-- RoundedSums.part -/
theorem vL_86 {E : Ev} {cc : ByteArray} {nL : Nat} {ret : Option FieldType} {R : Room} {cl sl : Nat} {Z : Zt} {pc : Nat} {L st : List Vv} {M : Mm} {N : Nn} {a b : Nat} {x0 : Int} {x1 : Int} {h : Nat} {P : Int → Mm → Nn → Prop} (hd : decode cc pc = .ok (.invokevirtual 86, 3)) (hct : Nat.ble (ctL st) 8 = true) (hR : Nat.ble (h + 1) R.frames = true ∧ Nat.ble (8 + (3 + 11) + 40 * h) R.locals = true) (hcl : Nat.ble cl R.cells = true ∧ Nat.ble sl R.slots = true) (hc : Ct E yX7_part cX7_part 3 ((some .long)) (rmH h) [vr (3, a, b), vi x0, vi x1] M N (ql P)) (k : ∀ r M1 N1, R64 r → P r M1 N1 → Go E RL cc nL ret R cl sl Z (pc + 3) L (vl r :: st) M1 N1) : Go E RL cc nL ret R cl sl Z (pc) L (vi x1 :: vi x0 :: vr (3, a, b) :: st) M N := go_callV (As := [vi x0, vi x1]) hd lL_86 rfl rfl rfl hct ⟨rfl, rfl⟩ ⟨Nat.le_of_ble_eq_true hR.1, Nat.le_of_ble_eq_true hR.2⟩ hc hcl (fun r M1 N1 h => by obtain ⟨z, rfl, h1, h⟩ := h; exact k z M1 N1 h1 h)
theorem kyX8_part : Cond.code yX8_part cX8_part 3 ((some .long)) ∈ BIG := bg7 88 (rfl) rfl
theorem kiyX8_part : Cond.initialized yX8_part.cls ∈ BIG := bg1 9 (by decide +kernel) rfl
theorem knyX8_part : Cond.instanceMethod yX8_part ∈ BIG := bg7 86 (by decide +kernel) rfl
theorem ksyX8_part : Cond.selects yX8_part.cls yX8_part yX8_part ∈ BIG := bg7 87 (by decide +kernel) rfl
theorem mwL_89 : Cond.methodLink RL 89 yX8_part ∈ BIG := bg7 85 (by decide +kernel) rfl
theorem lL_89 : LkV RL 89 8 yX8_part cX8_part 3 ((some .long)) 2 := ⟨mwL_89, knyX8_part, ksyX8_part, kiyX8_part, kyX8_part, ⟨_, rfl, rfl⟩, rfl, by decide +kernel, by decide +kernel, by decide +kernel⟩
/-- RoundedSumsModel.part -/
theorem vL_89 {E : Ev} {cc : ByteArray} {nL : Nat} {ret : Option FieldType} {R : Room} {cl sl : Nat} {Z : Zt} {pc : Nat} {L st : List Vv} {M : Mm} {N : Nn} {a b : Nat} {x0 : Int} {x1 : Int} {h : Nat} {P : Int → Mm → Nn → Prop} (hd : decode cc pc = .ok (.invokevirtual 89, 3)) (hct : Nat.ble (ctL st) 8 = true) (hR : Nat.ble (h + 1) R.frames = true ∧ Nat.ble (8 + (3 + 11) + 40 * h) R.locals = true) (hcl : Nat.ble cl R.cells = true ∧ Nat.ble sl R.slots = true) (hc : Ct E yX8_part cX8_part 3 ((some .long)) (rmH h) [vr (29, a, b), vi x0, vi x1] M N (ql P)) (k : ∀ r M1 N1, R64 r → P r M1 N1 → Go E RL cc nL ret R cl sl Z (pc + 3) L (vl r :: st) M1 N1) : Go E RL cc nL ret R cl sl Z (pc) L (vi x1 :: vi x0 :: vr (29, a, b) :: st) M N := go_callV (As := [vi x0, vi x1]) hd lL_89 rfl rfl rfl hct ⟨rfl, rfl⟩ ⟨Nat.le_of_ble_eq_true hR.1, Nat.le_of_ble_eq_true hR.2⟩ hc hcl (fun r M1 N1 h => by obtain ⟨z, rfl, h1, h⟩ := h; exact k z M1 N1 h1 h)
theorem kyX7_blame : Cond.code yX7_blame cX7_blame 2 ((some .int)) ∈ BIG := bg4 67 (rfl) rfl
theorem kiyX7_blame : Cond.initialized yX7_blame.cls ∈ BIG := bg1 1 (by decide +kernel) rfl
theorem knyX7_blame : Cond.instanceMethod yX7_blame ∈ BIG := bg4 65 (by decide +kernel) rfl
theorem ksyX7_blame : Cond.selects yX7_blame.cls yX7_blame yX7_blame ∈ BIG := bg4 66 (by decide +kernel) rfl
theorem mwL_90 : Cond.methodLink RL 90 yX7_blame ∈ BIG := bg4 64 (by decide +kernel) rfl
theorem lL_90 : LkV RL 90 7 yX7_blame cX7_blame 2 ((some .int)) 1 := ⟨mwL_90, knyX7_blame, ksyX7_blame, kiyX7_blame, kyX7_blame, ⟨_, rfl, rfl⟩, rfl, by decide +kernel, by decide +kernel, by decide +kernel⟩
/-- RoundedSums.blame -/
theorem vL_90 {E : Ev} {cc : ByteArray} {nL : Nat} {ret : Option FieldType} {R : Room} {cl sl : Nat} {Z : Zt} {pc : Nat} {L st : List Vv} {M : Mm} {N : Nn} {a b : Nat} {x0 : Int} {h : Nat} {P : Int → Mm → Nn → Prop} (hd : decode cc pc = .ok (.invokevirtual 90, 3)) (hct : Nat.ble (ctL st) 8 = true) (hR : Nat.ble (h + 1) R.frames = true ∧ Nat.ble (8 + (2 + 11) + 40 * h) R.locals = true) (hcl : Nat.ble cl R.cells = true ∧ Nat.ble sl R.slots = true) (hc : Ct E yX7_blame cX7_blame 2 ((some .int)) (rmH h) [vr (3, a, b), vi x0] M N (qi P)) (k : ∀ r M1 N1, R32 r → P r M1 N1 → Go E RL cc nL ret R cl sl Z (pc + 3) L (vi r :: st) M1 N1) : Go E RL cc nL ret R cl sl Z (pc) L (vi x0 :: vr (3, a, b) :: st) M N := go_callV (As := [vi x0]) hd lL_90 rfl rfl rfl hct ⟨rfl, rfl⟩ ⟨Nat.le_of_ble_eq_true hR.1, Nat.le_of_ble_eq_true hR.2⟩ hc hcl (fun r M1 N1 h => by obtain ⟨z, rfl, h1, h⟩ := h; exact k z M1 N1 h1 h)
theorem kyX8_blame : Cond.code yX8_blame cX8_blame 2 ((some .int)) ∈ BIG := bg7 96 (rfl) rfl
theorem kiyX8_blame : Cond.initialized yX8_blame.cls ∈ BIG := bg1 9 (by decide +kernel) rfl
theorem knyX8_blame : Cond.instanceMethod yX8_blame ∈ BIG := bg7 94 (by decide +kernel) rfl
theorem ksyX8_blame : Cond.selects yX8_blame.cls yX8_blame yX8_blame ∈ BIG := bg7 95 (by decide +kernel) rfl
theorem mwL_93 : Cond.methodLink RL 93 yX8_blame ∈ BIG := bg7 93 (by decide +kernel) rfl
theorem lL_93 : LkV RL 93 8 yX8_blame cX8_blame 2 ((some .int)) 1 := ⟨mwL_93, knyX8_blame, ksyX8_blame, kiyX8_blame, kyX8_blame, ⟨_, rfl, rfl⟩, rfl, by decide +kernel, by decide +kernel, by decide +kernel⟩
/-- RoundedSumsModel.blame -/
theorem vL_93 {E : Ev} {cc : ByteArray} {nL : Nat} {ret : Option FieldType} {R : Room} {cl sl : Nat} {Z : Zt} {pc : Nat} {L st : List Vv} {M : Mm} {N : Nn} {a b : Nat} {x0 : Int} {h : Nat} {P : Int → Mm → Nn → Prop} (hd : decode cc pc = .ok (.invokevirtual 93, 3)) (hct : Nat.ble (ctL st) 8 = true) (hR : Nat.ble (h + 1) R.frames = true ∧ Nat.ble (8 + (2 + 11) + 40 * h) R.locals = true) (hcl : Nat.ble cl R.cells = true ∧ Nat.ble sl R.slots = true) (hc : Ct E yX8_blame cX8_blame 2 ((some .int)) (rmH h) [vr (29, a, b), vi x0] M N (qi P)) (k : ∀ r M1 N1, R32 r → P r M1 N1 → Go E RL cc nL ret R cl sl Z (pc + 3) L (vi r :: st) M1 N1) : Go E RL cc nL ret R cl sl Z (pc) L (vi x0 :: vr (29, a, b) :: st) M N := go_callV (As := [vi x0]) hd lL_93 rfl rfl rfl hct ⟨rfl, rfl⟩ ⟨Nat.le_of_ble_eq_true hR.1, Nat.le_of_ble_eq_true hR.2⟩ hc hcl (fun r M1 N1 h => by obtain ⟨z, rfl, h1, h⟩ := h; exact k z M1 N1 h1 h)
theorem kyX7_may : Cond.code yX7_may cX7_may 2 ((some .int)) ∈ BIG := bg4 77 (rfl) rfl
theorem kiyX7_may : Cond.initialized yX7_may.cls ∈ BIG := bg1 1 (by decide +kernel) rfl
theorem knyX7_may : Cond.instanceMethod yX7_may ∈ BIG := bg4 75 (by decide +kernel) rfl
theorem ksyX7_may : Cond.selects yX7_may.cls yX7_may yX7_may ∈ BIG := bg4 76 (by decide +kernel) rfl
theorem mwL_94 : Cond.methodLink RL 94 yX7_may ∈ BIG := bg4 74 (by decide +kernel) rfl
theorem lL_94 : LkV RL 94 7 yX7_may cX7_may 2 ((some .int)) 1 := ⟨mwL_94, knyX7_may, ksyX7_may, kiyX7_may, kyX7_may, ⟨_, rfl, rfl⟩, rfl, by decide +kernel, by decide +kernel, by decide +kernel⟩
/-- RoundedSums.may -/
theorem vL_94 {E : Ev} {cc : ByteArray} {nL : Nat} {ret : Option FieldType} {R : Room} {cl sl : Nat} {Z : Zt} {pc : Nat} {L st : List Vv} {M : Mm} {N : Nn} {a b : Nat} {x0 : Int} {h : Nat} {P : Int → Mm → Nn → Prop} (hd : decode cc pc = .ok (.invokevirtual 94, 3)) (hct : Nat.ble (ctL st) 8 = true) (hR : Nat.ble (h + 1) R.frames = true ∧ Nat.ble (8 + (2 + 11) + 40 * h) R.locals = true) (hcl : Nat.ble cl R.cells = true ∧ Nat.ble sl R.slots = true) (hc : Ct E yX7_may cX7_may 2 ((some .int)) (rmH h) [vr (3, a, b), vi x0] M N (qi P)) (k : ∀ r M1 N1, R32 r → P r M1 N1 → Go E RL cc nL ret R cl sl Z (pc + 3) L (vi r :: st) M1 N1) : Go E RL cc nL ret R cl sl Z (pc) L (vi x0 :: vr (3, a, b) :: st) M N := go_callV (As := [vi x0]) hd lL_94 rfl rfl rfl hct ⟨rfl, rfl⟩ ⟨Nat.le_of_ble_eq_true hR.1, Nat.le_of_ble_eq_true hR.2⟩ hc hcl (fun r M1 N1 h => by obtain ⟨z, rfl, h1, h⟩ := h; exact k z M1 N1 h1 h)
theorem kyX8_may : Cond.code yX8_may cX8_may 2 ((some .int)) ∈ BIG := bg7 104 (rfl) rfl
theorem kiyX8_may : Cond.initialized yX8_may.cls ∈ BIG := bg1 9 (by decide +kernel) rfl
theorem knyX8_may : Cond.instanceMethod yX8_may ∈ BIG := bg7 102 (by decide +kernel) rfl
theorem ksyX8_may : Cond.selects yX8_may.cls yX8_may yX8_may ∈ BIG := bg7 103 (by decide +kernel) rfl
theorem mwL_97 : Cond.methodLink RL 97 yX8_may ∈ BIG := bg7 101 (by decide +kernel) rfl
theorem lL_97 : LkV RL 97 8 yX8_may cX8_may 2 ((some .int)) 1 := ⟨mwL_97, knyX8_may, ksyX8_may, kiyX8_may, kyX8_may, ⟨_, rfl, rfl⟩, rfl, by decide +kernel, by decide +kernel, by decide +kernel⟩
/-- RoundedSumsModel.may -/
theorem vL_97 {E : Ev} {cc : ByteArray} {nL : Nat} {ret : Option FieldType} {R : Room} {cl sl : Nat} {Z : Zt} {pc : Nat} {L st : List Vv} {M : Mm} {N : Nn} {a b : Nat} {x0 : Int} {h : Nat} {P : Int → Mm → Nn → Prop} (hd : decode cc pc = .ok (.invokevirtual 97, 3)) (hct : Nat.ble (ctL st) 8 = true) (hR : Nat.ble (h + 1) R.frames = true ∧ Nat.ble (8 + (2 + 11) + 40 * h) R.locals = true) (hcl : Nat.ble cl R.cells = true ∧ Nat.ble sl R.slots = true) (hc : Ct E yX8_may cX8_may 2 ((some .int)) (rmH h) [vr (29, a, b), vi x0] M N (qi P)) (k : ∀ r M1 N1, R32 r → P r M1 N1 → Go E RL cc nL ret R cl sl Z (pc + 3) L (vi r :: st) M1 N1) : Go E RL cc nL ret R cl sl Z (pc) L (vi x0 :: vr (29, a, b) :: st) M N := go_callV (As := [vi x0]) hd lL_97 rfl rfl rfl hct ⟨rfl, rfl⟩ ⟨Nat.le_of_ble_eq_true hR.1, Nat.le_of_ble_eq_true hR.2⟩ hc hcl (fun r M1 N1 h => by obtain ⟨z, rfl, h1, h⟩ := h; exact k z M1 N1 h1 h)
theorem kyX7_split : Cond.code yX7_split cX7_split 6 ((some .long)) ∈ BIG := bg4 81 (rfl) rfl
theorem kiyX7_split : Cond.initialized yX7_split.cls ∈ BIG := bg1 1 (by decide +kernel) rfl
theorem knyX7_split : Cond.instanceMethod yX7_split ∈ BIG := bg4 79 (by decide +kernel) rfl
theorem ksyX7_split : Cond.selects yX7_split.cls yX7_split yX7_split ∈ BIG := bg4 80 (by decide +kernel) rfl
theorem mwL_98 : Cond.methodLink RL 98 yX7_split ∈ BIG := bg4 78 (by decide +kernel) rfl
theorem lL_98 : LkV RL 98 7 yX7_split cX7_split 6 ((some .long)) 3 := ⟨mwL_98, knyX7_split, ksyX7_split, kiyX7_split, kyX7_split, ⟨_, rfl, rfl⟩, rfl, by decide +kernel, by decide +kernel, by decide +kernel⟩
/-- RoundedSums.split -/
theorem vL_98 {E : Ev} {cc : ByteArray} {nL : Nat} {ret : Option FieldType} {R : Room} {cl sl : Nat} {Z : Zt} {pc : Nat} {L st : List Vv} {M : Mm} {N : Nn} {a b : Nat} {x0 : Int} {x1 : Int} {x2 : Int} {h : Nat} {P : Int → Mm → Nn → Prop} (hd : decode cc pc = .ok (.invokevirtual 98, 3)) (hct : Nat.ble (ctL st) 8 = true) (hR : Nat.ble (h + 1) R.frames = true ∧ Nat.ble (8 + (6 + 11) + 40 * h) R.locals = true) (hcl : Nat.ble cl R.cells = true ∧ Nat.ble sl R.slots = true) (hc : Ct E yX7_split cX7_split 6 ((some .long)) (rmH h) [vr (3, a, b), vi x0, vi x1, vi x2] M N (ql P)) (k : ∀ r M1 N1, R64 r → P r M1 N1 → Go E RL cc nL ret R cl sl Z (pc + 3) L (vl r :: st) M1 N1) : Go E RL cc nL ret R cl sl Z (pc) L (vi x2 :: vi x1 :: vi x0 :: vr (3, a, b) :: st) M N := go_callV (As := [vi x0, vi x1, vi x2]) hd lL_98 rfl rfl rfl hct ⟨rfl, rfl⟩ ⟨Nat.le_of_ble_eq_true hR.1, Nat.le_of_ble_eq_true hR.2⟩ hc hcl (fun r M1 N1 h => by obtain ⟨z, rfl, h1, h⟩ := h; exact k z M1 N1 h1 h)
theorem kyX8_split : Cond.code yX8_split cX8_split 5 ((some .long)) ∈ BIG := bg7 108 (rfl) rfl
theorem kiyX8_split : Cond.initialized yX8_split.cls ∈ BIG := bg1 9 (by decide +kernel) rfl
theorem knyX8_split : Cond.instanceMethod yX8_split ∈ BIG := bg7 106 (by decide +kernel) rfl
theorem ksyX8_split : Cond.selects yX8_split.cls yX8_split yX8_split ∈ BIG := bg7 107 (by decide +kernel) rfl
theorem mwL_102 : Cond.methodLink RL 102 yX8_split ∈ BIG := bg7 105 (by decide +kernel) rfl
theorem lL_102 : LkV RL 102 8 yX8_split cX8_split 5 ((some .long)) 3 := ⟨mwL_102, knyX8_split, ksyX8_split, kiyX8_split, kyX8_split, ⟨_, rfl, rfl⟩, rfl, by decide +kernel, by decide +kernel, by decide +kernel⟩
/-- RoundedSumsModel.split -/
theorem vL_102 {E : Ev} {cc : ByteArray} {nL : Nat} {ret : Option FieldType} {R : Room} {cl sl : Nat} {Z : Zt} {pc : Nat} {L st : List Vv} {M : Mm} {N : Nn} {a b : Nat} {x0 : Int} {x1 : Int} {x2 : Int} {h : Nat} {P : Int → Mm → Nn → Prop} (hd : decode cc pc = .ok (.invokevirtual 102, 3)) (hct : Nat.ble (ctL st) 8 = true) (hR : Nat.ble (h + 1) R.frames = true ∧ Nat.ble (8 + (5 + 11) + 40 * h) R.locals = true) (hcl : Nat.ble cl R.cells = true ∧ Nat.ble sl R.slots = true) (hc : Ct E yX8_split cX8_split 5 ((some .long)) (rmH h) [vr (29, a, b), vi x0, vi x1, vi x2] M N (ql P)) (k : ∀ r M1 N1, R64 r → P r M1 N1 → Go E RL cc nL ret R cl sl Z (pc + 3) L (vl r :: st) M1 N1) : Go E RL cc nL ret R cl sl Z (pc) L (vi x2 :: vi x1 :: vi x0 :: vr (29, a, b) :: st) M N := go_callV (As := [vi x0, vi x1, vi x2]) hd lL_102 rfl rfl rfl hct ⟨rfl, rfl⟩ ⟨Nat.le_of_ble_eq_true hR.1, Nat.le_of_ble_eq_true hR.2⟩ hc hcl (fun r M1 N1 h => by obtain ⟨z, rfl, h1, h⟩ := h; exact k z M1 N1 h1 h)
theorem kyX7_splits : Cond.code yX7_splits cX7_splits 4 ((some .int)) ∈ BIG := bg4 128 (rfl) rfl
theorem kiyX7_splits : Cond.initialized yX7_splits.cls ∈ BIG := bg1 1 (by decide +kernel) rfl
theorem knyX7_splits : Cond.instanceMethod yX7_splits ∈ BIG := bg4 126 (by decide +kernel) rfl
theorem ksyX7_splits : Cond.selects yX7_splits.cls yX7_splits yX7_splits ∈ BIG := bg4 127 (by decide +kernel) rfl
theorem mwL_103 : Cond.methodLink RL 103 yX7_splits ∈ BIG := bg4 125 (by decide +kernel) rfl
theorem lL_103 : LkV RL 103 7 yX7_splits cX7_splits 4 ((some .int)) 2 := ⟨mwL_103, knyX7_splits, ksyX7_splits, kiyX7_splits, kyX7_splits, ⟨_, rfl, rfl⟩, rfl, by decide +kernel, by decide +kernel, by decide +kernel⟩
/-- RoundedSums.splits -/
theorem vL_103 {E : Ev} {cc : ByteArray} {nL : Nat} {ret : Option FieldType} {R : Room} {cl sl : Nat} {Z : Zt} {pc : Nat} {L st : List Vv} {M : Mm} {N : Nn} {a b : Nat} {x0 : Int} {x1 : Int} {h : Nat} {P : Int → Mm → Nn → Prop} (hd : decode cc pc = .ok (.invokevirtual 103, 3)) (hct : Nat.ble (ctL st) 8 = true) (hR : Nat.ble (h + 1) R.frames = true ∧ Nat.ble (8 + (4 + 11) + 40 * h) R.locals = true) (hcl : Nat.ble cl R.cells = true ∧ Nat.ble sl R.slots = true) (hc : Ct E yX7_splits cX7_splits 4 ((some .int)) (rmH h) [vr (3, a, b), vi x0, vi x1] M N (qi P)) (k : ∀ r M1 N1, R32 r → P r M1 N1 → Go E RL cc nL ret R cl sl Z (pc + 3) L (vi r :: st) M1 N1) : Go E RL cc nL ret R cl sl Z (pc) L (vi x1 :: vi x0 :: vr (3, a, b) :: st) M N := go_callV (As := [vi x0, vi x1]) hd lL_103 rfl rfl rfl hct ⟨rfl, rfl⟩ ⟨Nat.le_of_ble_eq_true hR.1, Nat.le_of_ble_eq_true hR.2⟩ hc hcl (fun r M1 N1 h => by obtain ⟨z, rfl, h1, h⟩ := h; exact k z M1 N1 h1 h)
theorem kyX8_splits : Cond.code yX8_splits cX8_splits 4 ((some .int)) ∈ BIG := bg7 137 (rfl) rfl
theorem kiyX8_splits : Cond.initialized yX8_splits.cls ∈ BIG := bg1 9 (by decide +kernel) rfl
theorem knyX8_splits : Cond.instanceMethod yX8_splits ∈ BIG := bg7 135 (by decide +kernel) rfl
theorem ksyX8_splits : Cond.selects yX8_splits.cls yX8_splits yX8_splits ∈ BIG := bg7 136 (by decide +kernel) rfl
theorem mwL_106 : Cond.methodLink RL 106 yX8_splits ∈ BIG := bg7 134 (by decide +kernel) rfl
theorem lL_106 : LkV RL 106 8 yX8_splits cX8_splits 4 ((some .int)) 2 := ⟨mwL_106, knyX8_splits, ksyX8_splits, kiyX8_splits, kyX8_splits, ⟨_, rfl, rfl⟩, rfl, by decide +kernel, by decide +kernel, by decide +kernel⟩
/-- RoundedSumsModel.splits -/
theorem vL_106 {E : Ev} {cc : ByteArray} {nL : Nat} {ret : Option FieldType} {R : Room} {cl sl : Nat} {Z : Zt} {pc : Nat} {L st : List Vv} {M : Mm} {N : Nn} {a b : Nat} {x0 : Int} {x1 : Int} {h : Nat} {P : Int → Mm → Nn → Prop} (hd : decode cc pc = .ok (.invokevirtual 106, 3)) (hct : Nat.ble (ctL st) 8 = true) (hR : Nat.ble (h + 1) R.frames = true ∧ Nat.ble (8 + (4 + 11) + 40 * h) R.locals = true) (hcl : Nat.ble cl R.cells = true ∧ Nat.ble sl R.slots = true) (hc : Ct E yX8_splits cX8_splits 4 ((some .int)) (rmH h) [vr (29, a, b), vi x0, vi x1] M N (qi P)) (k : ∀ r M1 N1, R32 r → P r M1 N1 → Go E RL cc nL ret R cl sl Z (pc + 3) L (vi r :: st) M1 N1) : Go E RL cc nL ret R cl sl Z (pc) L (vi x1 :: vi x0 :: vr (29, a, b) :: st) M N := go_callV (As := [vi x0, vi x1]) hd lL_106 rfl rfl rfl hct ⟨rfl, rfl⟩ ⟨Nat.le_of_ble_eq_true hR.1, Nat.le_of_ble_eq_true hR.2⟩ hc hcl (fun r M1 N1 h => by obtain ⟨z, rfl, h1, h⟩ := h; exact k z M1 N1 h1 h)
theorem kyX7_climb : Cond.code yX7_climb cX7_climb 4 ((some .long)) ∈ BIG := bg4 136 (rfl) rfl
theorem kiyX7_climb : Cond.initialized yX7_climb.cls ∈ BIG := bg1 1 (by decide +kernel) rfl
theorem knyX7_climb : Cond.instanceMethod yX7_climb ∈ BIG := bg4 134 (by decide +kernel) rfl
theorem ksyX7_climb : Cond.selects yX7_climb.cls yX7_climb yX7_climb ∈ BIG := bg4 135 (by decide +kernel) rfl
theorem mwL_107 : Cond.methodLink RL 107 yX7_climb ∈ BIG := bg4 133 (by decide +kernel) rfl
theorem lL_107 : LkV RL 107 7 yX7_climb cX7_climb 4 ((some .long)) 3 := ⟨mwL_107, knyX7_climb, ksyX7_climb, kiyX7_climb, kyX7_climb, ⟨_, rfl, rfl⟩, rfl, by decide +kernel, by decide +kernel, by decide +kernel⟩
/-- RoundedSums.climb -/
theorem vL_107 {E : Ev} {cc : ByteArray} {nL : Nat} {ret : Option FieldType} {R : Room} {cl sl : Nat} {Z : Zt} {pc : Nat} {L st : List Vv} {M : Mm} {N : Nn} {a b : Nat} {x0 : Int} {x1 : Int} {x2 : Int} {h : Nat} {P : Int → Mm → Nn → Prop} (hd : decode cc pc = .ok (.invokevirtual 107, 3)) (hct : Nat.ble (ctL st) 8 = true) (hR : Nat.ble (h + 1) R.frames = true ∧ Nat.ble (8 + (4 + 11) + 40 * h) R.locals = true) (hcl : Nat.ble cl R.cells = true ∧ Nat.ble sl R.slots = true) (hc : Ct E yX7_climb cX7_climb 4 ((some .long)) (rmH h) [vr (3, a, b), vi x0, vi x1, vi x2] M N (ql P)) (k : ∀ r M1 N1, R64 r → P r M1 N1 → Go E RL cc nL ret R cl sl Z (pc + 3) L (vl r :: st) M1 N1) : Go E RL cc nL ret R cl sl Z (pc) L (vi x2 :: vi x1 :: vi x0 :: vr (3, a, b) :: st) M N := go_callV (As := [vi x0, vi x1, vi x2]) hd lL_107 rfl rfl rfl hct ⟨rfl, rfl⟩ ⟨Nat.le_of_ble_eq_true hR.1, Nat.le_of_ble_eq_true hR.2⟩ hc hcl (fun r M1 N1 h => by obtain ⟨z, rfl, h1, h⟩ := h; exact k z M1 N1 h1 h)
theorem kyX8_climb : Cond.code yX8_climb cX8_climb 4 ((some .long)) ∈ BIG := bg7 141 (rfl) rfl
theorem kiyX8_climb : Cond.initialized yX8_climb.cls ∈ BIG := bg1 9 (by decide +kernel) rfl
theorem knyX8_climb : Cond.instanceMethod yX8_climb ∈ BIG := bg7 139 (by decide +kernel) rfl
theorem ksyX8_climb : Cond.selects yX8_climb.cls yX8_climb yX8_climb ∈ BIG := bg7 140 (by decide +kernel) rfl
theorem mwL_110 : Cond.methodLink RL 110 yX8_climb ∈ BIG := bg7 138 (by decide +kernel) rfl
theorem lL_110 : LkV RL 110 8 yX8_climb cX8_climb 4 ((some .long)) 3 := ⟨mwL_110, knyX8_climb, ksyX8_climb, kiyX8_climb, kyX8_climb, ⟨_, rfl, rfl⟩, rfl, by decide +kernel, by decide +kernel, by decide +kernel⟩
/-- RoundedSumsModel.climb -/
theorem vL_110 {E : Ev} {cc : ByteArray} {nL : Nat} {ret : Option FieldType} {R : Room} {cl sl : Nat} {Z : Zt} {pc : Nat} {L st : List Vv} {M : Mm} {N : Nn} {a b : Nat} {x0 : Int} {x1 : Int} {x2 : Int} {h : Nat} {P : Int → Mm → Nn → Prop} (hd : decode cc pc = .ok (.invokevirtual 110, 3)) (hct : Nat.ble (ctL st) 8 = true) (hR : Nat.ble (h + 1) R.frames = true ∧ Nat.ble (8 + (4 + 11) + 40 * h) R.locals = true) (hcl : Nat.ble cl R.cells = true ∧ Nat.ble sl R.slots = true) (hc : Ct E yX8_climb cX8_climb 4 ((some .long)) (rmH h) [vr (29, a, b), vi x0, vi x1, vi x2] M N (ql P)) (k : ∀ r M1 N1, R64 r → P r M1 N1 → Go E RL cc nL ret R cl sl Z (pc + 3) L (vl r :: st) M1 N1) : Go E RL cc nL ret R cl sl Z (pc) L (vi x2 :: vi x1 :: vi x0 :: vr (29, a, b) :: st) M N := go_callV (As := [vi x0, vi x1, vi x2]) hd lL_110 rfl rfl rfl hct ⟨rfl, rfl⟩ ⟨Nat.le_of_ble_eq_true hR.1, Nat.le_of_ble_eq_true hR.2⟩ hc hcl (fun r M1 N1 h => by obtain ⟨z, rfl, h1, h⟩ := h; exact k z M1 N1 h1 h)
theorem kyX7_witness : Cond.code yX7_witness cX7_witness 5 ((some .long)) ∈ BIG := bg4 178 (rfl) rfl
theorem kiyX7_witness : Cond.initialized yX7_witness.cls ∈ BIG := bg1 1 (by decide +kernel) rfl
theorem knyX7_witness : Cond.instanceMethod yX7_witness ∈ BIG := bg4 176 (by decide +kernel) rfl
theorem ksyX7_witness : Cond.selects yX7_witness.cls yX7_witness yX7_witness ∈ BIG := bg4 177 (by decide +kernel) rfl
theorem mwL_111 : Cond.methodLink RL 111 yX7_witness ∈ BIG := bg4 175 (by decide +kernel) rfl
theorem lL_111 : LkV RL 111 7 yX7_witness cX7_witness 5 ((some .long)) 4 := ⟨mwL_111, knyX7_witness, ksyX7_witness, kiyX7_witness, kyX7_witness, ⟨_, rfl, rfl⟩, rfl, by decide +kernel, by decide +kernel, by decide +kernel⟩
/-- RoundedSums.witness -/
theorem vL_111 {E : Ev} {cc : ByteArray} {nL : Nat} {ret : Option FieldType} {R : Room} {cl sl : Nat} {Z : Zt} {pc : Nat} {L st : List Vv} {M : Mm} {N : Nn} {a b : Nat} {x0 : Int} {x1 : Int} {x2 : Int} {x3 : Int} {h : Nat} {P : Int → Mm → Nn → Prop} (hd : decode cc pc = .ok (.invokevirtual 111, 3)) (hct : Nat.ble (ctL st) 8 = true) (hR : Nat.ble (h + 1) R.frames = true ∧ Nat.ble (8 + (5 + 11) + 40 * h) R.locals = true) (hcl : Nat.ble cl R.cells = true ∧ Nat.ble sl R.slots = true) (hc : Ct E yX7_witness cX7_witness 5 ((some .long)) (rmH h) [vr (3, a, b), vi x0, vi x1, vi x2, vi x3] M N (ql P)) (k : ∀ r M1 N1, R64 r → P r M1 N1 → Go E RL cc nL ret R cl sl Z (pc + 3) L (vl r :: st) M1 N1) : Go E RL cc nL ret R cl sl Z (pc) L (vi x3 :: vi x2 :: vi x1 :: vi x0 :: vr (3, a, b) :: st) M N := go_callV (As := [vi x0, vi x1, vi x2, vi x3]) hd lL_111 rfl rfl rfl hct ⟨rfl, rfl⟩ ⟨Nat.le_of_ble_eq_true hR.1, Nat.le_of_ble_eq_true hR.2⟩ hc hcl (fun r M1 N1 h => by obtain ⟨z, rfl, h1, h⟩ := h; exact k z M1 N1 h1 h)
theorem kyX8_witness : Cond.code yX8_witness cX8_witness 5 ((some .long)) ∈ BIG := bg7 176 (rfl) rfl
theorem kiyX8_witness : Cond.initialized yX8_witness.cls ∈ BIG := bg1 9 (by decide +kernel) rfl
theorem knyX8_witness : Cond.instanceMethod yX8_witness ∈ BIG := bg7 174 (by decide +kernel) rfl
theorem ksyX8_witness : Cond.selects yX8_witness.cls yX8_witness yX8_witness ∈ BIG := bg7 175 (by decide +kernel) rfl
theorem mwL_115 : Cond.methodLink RL 115 yX8_witness ∈ BIG := bg7 173 (by decide +kernel) rfl
theorem lL_115 : LkV RL 115 8 yX8_witness cX8_witness 5 ((some .long)) 4 := ⟨mwL_115, knyX8_witness, ksyX8_witness, kiyX8_witness, kyX8_witness, ⟨_, rfl, rfl⟩, rfl, by decide +kernel, by decide +kernel, by decide +kernel⟩
/-- RoundedSumsModel.witness -/
theorem vL_115 {E : Ev} {cc : ByteArray} {nL : Nat} {ret : Option FieldType} {R : Room} {cl sl : Nat} {Z : Zt} {pc : Nat} {L st : List Vv} {M : Mm} {N : Nn} {a b : Nat} {x0 : Int} {x1 : Int} {x2 : Int} {x3 : Int} {h : Nat} {P : Int → Mm → Nn → Prop} (hd : decode cc pc = .ok (.invokevirtual 115, 3)) (hct : Nat.ble (ctL st) 8 = true) (hR : Nat.ble (h + 1) R.frames = true ∧ Nat.ble (8 + (5 + 11) + 40 * h) R.locals = true) (hcl : Nat.ble cl R.cells = true ∧ Nat.ble sl R.slots = true) (hc : Ct E yX8_witness cX8_witness 5 ((some .long)) (rmH h) [vr (29, a, b), vi x0, vi x1, vi x2, vi x3] M N (ql P)) (k : ∀ r M1 N1, R64 r → P r M1 N1 → Go E RL cc nL ret R cl sl Z (pc + 3) L (vl r :: st) M1 N1) : Go E RL cc nL ret R cl sl Z (pc) L (vi x3 :: vi x2 :: vi x1 :: vi x0 :: vr (29, a, b) :: st) M N := go_callV (As := [vi x0, vi x1, vi x2, vi x3]) hd lL_115 rfl rfl rfl hct ⟨rfl, rfl⟩ ⟨Nat.le_of_ble_eq_true hR.1, Nat.le_of_ble_eq_true hR.2⟩ hc hcl (fun r M1 N1 h => by obtain ⟨z, rfl, h1, h⟩ := h; exact k z M1 N1 h1 h)
theorem kyX7_worst : Cond.code yX7_worst cX7_worst 2 ((some .long)) ∈ BIG := bg4 182 (rfl) rfl
theorem kiyX7_worst : Cond.initialized yX7_worst.cls ∈ BIG := bg1 1 (by decide +kernel) rfl
theorem knyX7_worst : Cond.instanceMethod yX7_worst ∈ BIG := bg4 180 (by decide +kernel) rfl
theorem ksyX7_worst : Cond.selects yX7_worst.cls yX7_worst yX7_worst ∈ BIG := bg4 181 (by decide +kernel) rfl
theorem mwL_116 : Cond.methodLink RL 116 yX7_worst ∈ BIG := bg4 179 (by decide +kernel) rfl
theorem lL_116 : LkV RL 116 7 yX7_worst cX7_worst 2 ((some .long)) 1 := ⟨mwL_116, knyX7_worst, ksyX7_worst, kiyX7_worst, kyX7_worst, ⟨_, rfl, rfl⟩, rfl, by decide +kernel, by decide +kernel, by decide +kernel⟩
/-- RoundedSums.worst -/
theorem vL_116 {E : Ev} {cc : ByteArray} {nL : Nat} {ret : Option FieldType} {R : Room} {cl sl : Nat} {Z : Zt} {pc : Nat} {L st : List Vv} {M : Mm} {N : Nn} {a b : Nat} {x0 : Int} {h : Nat} {P : Int → Mm → Nn → Prop} (hd : decode cc pc = .ok (.invokevirtual 116, 3)) (hct : Nat.ble (ctL st) 8 = true) (hR : Nat.ble (h + 1) R.frames = true ∧ Nat.ble (8 + (2 + 11) + 40 * h) R.locals = true) (hcl : Nat.ble cl R.cells = true ∧ Nat.ble sl R.slots = true) (hc : Ct E yX7_worst cX7_worst 2 ((some .long)) (rmH h) [vr (3, a, b), vi x0] M N (ql P)) (k : ∀ r M1 N1, R64 r → P r M1 N1 → Go E RL cc nL ret R cl sl Z (pc + 3) L (vl r :: st) M1 N1) : Go E RL cc nL ret R cl sl Z (pc) L (vi x0 :: vr (3, a, b) :: st) M N := go_callV (As := [vi x0]) hd lL_116 rfl rfl rfl hct ⟨rfl, rfl⟩ ⟨Nat.le_of_ble_eq_true hR.1, Nat.le_of_ble_eq_true hR.2⟩ hc hcl (fun r M1 N1 h => by obtain ⟨z, rfl, h1, h⟩ := h; exact k z M1 N1 h1 h)
theorem kyX8_worst : Cond.code yX8_worst cX8_worst 6 ((some .long)) ∈ BIG := bg7 180 (rfl) rfl
theorem kiyX8_worst : Cond.initialized yX8_worst.cls ∈ BIG := bg1 9 (by decide +kernel) rfl
theorem knyX8_worst : Cond.instanceMethod yX8_worst ∈ BIG := bg7 178 (by decide +kernel) rfl
theorem ksyX8_worst : Cond.selects yX8_worst.cls yX8_worst yX8_worst ∈ BIG := bg7 179 (by decide +kernel) rfl
theorem mwL_119 : Cond.methodLink RL 119 yX8_worst ∈ BIG := bg7 177 (by decide +kernel) rfl
theorem lL_119 : LkV RL 119 8 yX8_worst cX8_worst 6 ((some .long)) 1 := ⟨mwL_119, knyX8_worst, ksyX8_worst, kiyX8_worst, kyX8_worst, ⟨_, rfl, rfl⟩, rfl, by decide +kernel, by decide +kernel, by decide +kernel⟩
/-- RoundedSumsModel.worst -/
theorem vL_119 {E : Ev} {cc : ByteArray} {nL : Nat} {ret : Option FieldType} {R : Room} {cl sl : Nat} {Z : Zt} {pc : Nat} {L st : List Vv} {M : Mm} {N : Nn} {a b : Nat} {x0 : Int} {h : Nat} {P : Int → Mm → Nn → Prop} (hd : decode cc pc = .ok (.invokevirtual 119, 3)) (hct : Nat.ble (ctL st) 8 = true) (hR : Nat.ble (h + 1) R.frames = true ∧ Nat.ble (8 + (6 + 11) + 40 * h) R.locals = true) (hcl : Nat.ble cl R.cells = true ∧ Nat.ble sl R.slots = true) (hc : Ct E yX8_worst cX8_worst 6 ((some .long)) (rmH h) [vr (29, a, b), vi x0] M N (ql P)) (k : ∀ r M1 N1, R64 r → P r M1 N1 → Go E RL cc nL ret R cl sl Z (pc + 3) L (vl r :: st) M1 N1) : Go E RL cc nL ret R cl sl Z (pc) L (vi x0 :: vr (29, a, b) :: st) M N := go_callV (As := [vi x0]) hd lL_119 rfl rfl rfl hct ⟨rfl, rfl⟩ ⟨Nat.le_of_ble_eq_true hR.1, Nat.le_of_ble_eq_true hR.2⟩ hc hcl (fun r M1 N1 h => by obtain ⟨z, rfl, h1, h⟩ := h; exact k z M1 N1 h1 h)
theorem kyX7_parts : Cond.code yX7_parts cX7_parts 4 ((some .int)) ∈ BIG := bg4 197 (rfl) rfl
theorem kiyX7_parts : Cond.initialized yX7_parts.cls ∈ BIG := bg1 1 (by decide +kernel) rfl
theorem knyX7_parts : Cond.instanceMethod yX7_parts ∈ BIG := bg4 195 (by decide +kernel) rfl
theorem ksyX7_parts : Cond.selects yX7_parts.cls yX7_parts yX7_parts ∈ BIG := bg4 196 (by decide +kernel) rfl
theorem mwL_120 : Cond.methodLink RL 120 yX7_parts ∈ BIG := bg4 194 (by decide +kernel) rfl
theorem lL_120 : LkV RL 120 7 yX7_parts cX7_parts 4 ((some .int)) 3 := ⟨mwL_120, knyX7_parts, ksyX7_parts, kiyX7_parts, kyX7_parts, ⟨_, rfl, rfl⟩, rfl, by decide +kernel, by decide +kernel, by decide +kernel⟩
/-- RoundedSums.parts -/
theorem vL_120 {E : Ev} {cc : ByteArray} {nL : Nat} {ret : Option FieldType} {R : Room} {cl sl : Nat} {Z : Zt} {pc : Nat} {L st : List Vv} {M : Mm} {N : Nn} {a b : Nat} {x0 : Int} {x1 : Int} {x2 : Int} {h : Nat} {P : Int → Mm → Nn → Prop} (hd : decode cc pc = .ok (.invokevirtual 120, 3)) (hct : Nat.ble (ctL st) 8 = true) (hR : Nat.ble (h + 1) R.frames = true ∧ Nat.ble (8 + (4 + 11) + 40 * h) R.locals = true) (hcl : Nat.ble cl R.cells = true ∧ Nat.ble sl R.slots = true) (hc : Ct E yX7_parts cX7_parts 4 ((some .int)) (rmH h) [vr (3, a, b), vi x0, vi x1, vi x2] M N (qi P)) (k : ∀ r M1 N1, R32 r → P r M1 N1 → Go E RL cc nL ret R cl sl Z (pc + 3) L (vi r :: st) M1 N1) : Go E RL cc nL ret R cl sl Z (pc) L (vi x2 :: vi x1 :: vi x0 :: vr (3, a, b) :: st) M N := go_callV (As := [vi x0, vi x1, vi x2]) hd lL_120 rfl rfl rfl hct ⟨rfl, rfl⟩ ⟨Nat.le_of_ble_eq_true hR.1, Nat.le_of_ble_eq_true hR.2⟩ hc hcl (fun r M1 N1 h => by obtain ⟨z, rfl, h1, h⟩ := h; exact k z M1 N1 h1 h)
theorem kyX8_parts : Cond.code yX8_parts cX8_parts 7 ((some .int)) ∈ BIG := bg7 189 (rfl) rfl
theorem kiyX8_parts : Cond.initialized yX8_parts.cls ∈ BIG := bg1 9 (by decide +kernel) rfl
theorem knyX8_parts : Cond.instanceMethod yX8_parts ∈ BIG := bg7 187 (by decide +kernel) rfl
theorem ksyX8_parts : Cond.selects yX8_parts.cls yX8_parts yX8_parts ∈ BIG := bg7 188 (by decide +kernel) rfl
theorem mwL_124 : Cond.methodLink RL 124 yX8_parts ∈ BIG := bg7 186 (by decide +kernel) rfl
theorem lL_124 : LkV RL 124 8 yX8_parts cX8_parts 7 ((some .int)) 3 := ⟨mwL_124, knyX8_parts, ksyX8_parts, kiyX8_parts, kyX8_parts, ⟨_, rfl, rfl⟩, rfl, by decide +kernel, by decide +kernel, by decide +kernel⟩
/-- RoundedSumsModel.parts -/
theorem vL_124 {E : Ev} {cc : ByteArray} {nL : Nat} {ret : Option FieldType} {R : Room} {cl sl : Nat} {Z : Zt} {pc : Nat} {L st : List Vv} {M : Mm} {N : Nn} {a b : Nat} {x0 : Int} {x1 : Int} {x2 : Int} {h : Nat} {P : Int → Mm → Nn → Prop} (hd : decode cc pc = .ok (.invokevirtual 124, 3)) (hct : Nat.ble (ctL st) 8 = true) (hR : Nat.ble (h + 1) R.frames = true ∧ Nat.ble (8 + (7 + 11) + 40 * h) R.locals = true) (hcl : Nat.ble cl R.cells = true ∧ Nat.ble sl R.slots = true) (hc : Ct E yX8_parts cX8_parts 7 ((some .int)) (rmH h) [vr (29, a, b), vi x0, vi x1, vi x2] M N (qi P)) (k : ∀ r M1 N1, R32 r → P r M1 N1 → Go E RL cc nL ret R cl sl Z (pc + 3) L (vi r :: st) M1 N1) : Go E RL cc nL ret R cl sl Z (pc) L (vi x2 :: vi x1 :: vi x0 :: vr (29, a, b) :: st) M N := go_callV (As := [vi x0, vi x1, vi x2]) hd lL_124 rfl rfl rfl hct ⟨rfl, rfl⟩ ⟨Nat.le_of_ble_eq_true hR.1, Nat.le_of_ble_eq_true hR.2⟩ hc hcl (fun r M1 N1 h => by obtain ⟨z, rfl, h1, h⟩ := h; exact k z M1 N1 h1 h)
theorem kyX7_finer : Cond.code yX7_finer cX7_finer 6 ((some .int)) ∈ BIG := bg4 206 (rfl) rfl
theorem kiyX7_finer : Cond.initialized yX7_finer.cls ∈ BIG := bg1 1 (by decide +kernel) rfl
theorem knyX7_finer : Cond.instanceMethod yX7_finer ∈ BIG := bg4 204 (by decide +kernel) rfl
theorem ksyX7_finer : Cond.selects yX7_finer.cls yX7_finer yX7_finer ∈ BIG := bg4 205 (by decide +kernel) rfl
theorem mwL_125 : Cond.methodLink RL 125 yX7_finer ∈ BIG := bg4 203 (by decide +kernel) rfl
theorem lL_125 : LkV RL 125 7 yX7_finer cX7_finer 6 ((some .int)) 2 := ⟨mwL_125, knyX7_finer, ksyX7_finer, kiyX7_finer, kyX7_finer, ⟨_, rfl, rfl⟩, rfl, by decide +kernel, by decide +kernel, by decide +kernel⟩
/-- RoundedSums.finer -/
theorem vL_125 {E : Ev} {cc : ByteArray} {nL : Nat} {ret : Option FieldType} {R : Room} {cl sl : Nat} {Z : Zt} {pc : Nat} {L st : List Vv} {M : Mm} {N : Nn} {a b : Nat} {x0 : Int} {x1 : Int} {h : Nat} {P : Int → Mm → Nn → Prop} (hd : decode cc pc = .ok (.invokevirtual 125, 3)) (hct : Nat.ble (ctL st) 8 = true) (hR : Nat.ble (h + 1) R.frames = true ∧ Nat.ble (8 + (6 + 11) + 40 * h) R.locals = true) (hcl : Nat.ble cl R.cells = true ∧ Nat.ble sl R.slots = true) (hc : Ct E yX7_finer cX7_finer 6 ((some .int)) (rmH h) [vr (3, a, b), vi x0, vi x1] M N (qi P)) (k : ∀ r M1 N1, R32 r → P r M1 N1 → Go E RL cc nL ret R cl sl Z (pc + 3) L (vi r :: st) M1 N1) : Go E RL cc nL ret R cl sl Z (pc) L (vi x1 :: vi x0 :: vr (3, a, b) :: st) M N := go_callV (As := [vi x0, vi x1]) hd lL_125 rfl rfl rfl hct ⟨rfl, rfl⟩ ⟨Nat.le_of_ble_eq_true hR.1, Nat.le_of_ble_eq_true hR.2⟩ hc hcl (fun r M1 N1 h => by obtain ⟨z, rfl, h1, h⟩ := h; exact k z M1 N1 h1 h)
theorem kyX8_finer : Cond.code yX8_finer cX8_finer 5 ((some .int)) ∈ BIG := bg7 194 (rfl) rfl
theorem kiyX8_finer : Cond.initialized yX8_finer.cls ∈ BIG := bg1 9 (by decide +kernel) rfl
theorem knyX8_finer : Cond.instanceMethod yX8_finer ∈ BIG := bg7 192 (by decide +kernel) rfl
theorem ksyX8_finer : Cond.selects yX8_finer.cls yX8_finer yX8_finer ∈ BIG := bg7 193 (by decide +kernel) rfl
theorem mwL_128 : Cond.methodLink RL 128 yX8_finer ∈ BIG := bg7 191 (by decide +kernel) rfl
theorem lL_128 : LkV RL 128 8 yX8_finer cX8_finer 5 ((some .int)) 2 := ⟨mwL_128, knyX8_finer, ksyX8_finer, kiyX8_finer, kyX8_finer, ⟨_, rfl, rfl⟩, rfl, by decide +kernel, by decide +kernel, by decide +kernel⟩
/-- RoundedSumsModel.finer -/
theorem vL_128 {E : Ev} {cc : ByteArray} {nL : Nat} {ret : Option FieldType} {R : Room} {cl sl : Nat} {Z : Zt} {pc : Nat} {L st : List Vv} {M : Mm} {N : Nn} {a b : Nat} {x0 : Int} {x1 : Int} {h : Nat} {P : Int → Mm → Nn → Prop} (hd : decode cc pc = .ok (.invokevirtual 128, 3)) (hct : Nat.ble (ctL st) 8 = true) (hR : Nat.ble (h + 1) R.frames = true ∧ Nat.ble (8 + (5 + 11) + 40 * h) R.locals = true) (hcl : Nat.ble cl R.cells = true ∧ Nat.ble sl R.slots = true) (hc : Ct E yX8_finer cX8_finer 5 ((some .int)) (rmH h) [vr (29, a, b), vi x0, vi x1] M N (qi P)) (k : ∀ r M1 N1, R32 r → P r M1 N1 → Go E RL cc nL ret R cl sl Z (pc + 3) L (vi r :: st) M1 N1) : Go E RL cc nL ret R cl sl Z (pc) L (vi x1 :: vi x0 :: vr (29, a, b) :: st) M N := go_callV (As := [vi x0, vi x1]) hd lL_128 rfl rfl rfl hct ⟨rfl, rfl⟩ ⟨Nat.le_of_ble_eq_true hR.1, Nat.le_of_ble_eq_true hR.2⟩ hc hcl (fun r M1 N1 h => by obtain ⟨z, rfl, h1, h⟩ := h; exact k z M1 N1 h1 h)
theorem kyX7_grid : Cond.code yX7_grid cX7_grid 4 ((some .int)) ∈ BIG := bg4 215 (rfl) rfl
theorem kiyX7_grid : Cond.initialized yX7_grid.cls ∈ BIG := bg1 1 (by decide +kernel) rfl
theorem knyX7_grid : Cond.instanceMethod yX7_grid ∈ BIG := bg4 213 (by decide +kernel) rfl
theorem ksyX7_grid : Cond.selects yX7_grid.cls yX7_grid yX7_grid ∈ BIG := bg4 214 (by decide +kernel) rfl
theorem mwL_129 : Cond.methodLink RL 129 yX7_grid ∈ BIG := bg4 212 (by decide +kernel) rfl
theorem lL_129 : LkV RL 129 7 yX7_grid cX7_grid 4 ((some .int)) 2 := ⟨mwL_129, knyX7_grid, ksyX7_grid, kiyX7_grid, kyX7_grid, ⟨_, rfl, rfl⟩, rfl, by decide +kernel, by decide +kernel, by decide +kernel⟩
/-- RoundedSums.grid -/
theorem vL_129 {E : Ev} {cc : ByteArray} {nL : Nat} {ret : Option FieldType} {R : Room} {cl sl : Nat} {Z : Zt} {pc : Nat} {L st : List Vv} {M : Mm} {N : Nn} {a b : Nat} {x0 : Int} {x1 : Int} {h : Nat} {P : Int → Mm → Nn → Prop} (hd : decode cc pc = .ok (.invokevirtual 129, 3)) (hct : Nat.ble (ctL st) 8 = true) (hR : Nat.ble (h + 1) R.frames = true ∧ Nat.ble (8 + (4 + 11) + 40 * h) R.locals = true) (hcl : Nat.ble cl R.cells = true ∧ Nat.ble sl R.slots = true) (hc : Ct E yX7_grid cX7_grid 4 ((some .int)) (rmH h) [vr (3, a, b), vi x0, vi x1] M N (qi P)) (k : ∀ r M1 N1, R32 r → P r M1 N1 → Go E RL cc nL ret R cl sl Z (pc + 3) L (vi r :: st) M1 N1) : Go E RL cc nL ret R cl sl Z (pc) L (vi x1 :: vi x0 :: vr (3, a, b) :: st) M N := go_callV (As := [vi x0, vi x1]) hd lL_129 rfl rfl rfl hct ⟨rfl, rfl⟩ ⟨Nat.le_of_ble_eq_true hR.1, Nat.le_of_ble_eq_true hR.2⟩ hc hcl (fun r M1 N1 h => by obtain ⟨z, rfl, h1, h⟩ := h; exact k z M1 N1 h1 h)
theorem kyX8_grid : Cond.code yX8_grid cX8_grid 4 ((some .int)) ∈ BIG := bg7 202 (rfl) rfl
theorem kiyX8_grid : Cond.initialized yX8_grid.cls ∈ BIG := bg1 9 (by decide +kernel) rfl
theorem knyX8_grid : Cond.instanceMethod yX8_grid ∈ BIG := bg7 200 (by decide +kernel) rfl
theorem ksyX8_grid : Cond.selects yX8_grid.cls yX8_grid yX8_grid ∈ BIG := bg7 201 (by decide +kernel) rfl
theorem mwL_132 : Cond.methodLink RL 132 yX8_grid ∈ BIG := bg7 199 (by decide +kernel) rfl
theorem lL_132 : LkV RL 132 8 yX8_grid cX8_grid 4 ((some .int)) 2 := ⟨mwL_132, knyX8_grid, ksyX8_grid, kiyX8_grid, kyX8_grid, ⟨_, rfl, rfl⟩, rfl, by decide +kernel, by decide +kernel, by decide +kernel⟩
/-- RoundedSumsModel.grid -/
theorem vL_132 {E : Ev} {cc : ByteArray} {nL : Nat} {ret : Option FieldType} {R : Room} {cl sl : Nat} {Z : Zt} {pc : Nat} {L st : List Vv} {M : Mm} {N : Nn} {a b : Nat} {x0 : Int} {x1 : Int} {h : Nat} {P : Int → Mm → Nn → Prop} (hd : decode cc pc = .ok (.invokevirtual 132, 3)) (hct : Nat.ble (ctL st) 8 = true) (hR : Nat.ble (h + 1) R.frames = true ∧ Nat.ble (8 + (4 + 11) + 40 * h) R.locals = true) (hcl : Nat.ble cl R.cells = true ∧ Nat.ble sl R.slots = true) (hc : Ct E yX8_grid cX8_grid 4 ((some .int)) (rmH h) [vr (29, a, b), vi x0, vi x1] M N (qi P)) (k : ∀ r M1 N1, R32 r → P r M1 N1 → Go E RL cc nL ret R cl sl Z (pc + 3) L (vi r :: st) M1 N1) : Go E RL cc nL ret R cl sl Z (pc) L (vi x1 :: vi x0 :: vr (29, a, b) :: st) M N := go_callV (As := [vi x0, vi x1]) hd lL_132 rfl rfl rfl hct ⟨rfl, rfl⟩ ⟨Nat.le_of_ble_eq_true hR.1, Nat.le_of_ble_eq_true hR.2⟩ hc hcl (fun r M1 N1 h => by obtain ⟨z, rfl, h1, h⟩ := h; exact k z M1 N1 h1 h)
theorem kyX7_range : Cond.code yX7_range cX7_range 4 ((some .boolean)) ∈ BIG := bg4 219 (rfl) rfl
theorem kiyX7_range : Cond.initialized yX7_range.cls ∈ BIG := bg1 1 (by decide +kernel) rfl
theorem knyX7_range : Cond.instanceMethod yX7_range ∈ BIG := bg4 217 (by decide +kernel) rfl
theorem ksyX7_range : Cond.selects yX7_range.cls yX7_range yX7_range ∈ BIG := bg4 218 (by decide +kernel) rfl
theorem mwL_133 : Cond.methodLink RL 133 yX7_range ∈ BIG := bg4 216 (by decide +kernel) rfl
theorem lL_133 : LkV RL 133 7 yX7_range cX7_range 4 ((some .boolean)) 3 := ⟨mwL_133, knyX7_range, ksyX7_range, kiyX7_range, kyX7_range, ⟨_, rfl, rfl⟩, rfl, by decide +kernel, by decide +kernel, by decide +kernel⟩
/-- RoundedSums.range -/
theorem vL_133 {E : Ev} {cc : ByteArray} {nL : Nat} {ret : Option FieldType} {R : Room} {cl sl : Nat} {Z : Zt} {pc : Nat} {L st : List Vv} {M : Mm} {N : Nn} {a b : Nat} {x0 : Int} {x1 : Int} {x2 : Int} {h : Nat} {P : Int → Mm → Nn → Prop} (hd : decode cc pc = .ok (.invokevirtual 133, 3)) (hct : Nat.ble (ctL st) 8 = true) (hR : Nat.ble (h + 1) R.frames = true ∧ Nat.ble (8 + (4 + 11) + 40 * h) R.locals = true) (hcl : Nat.ble cl R.cells = true ∧ Nat.ble sl R.slots = true) (hc : Ct E yX7_range cX7_range 4 ((some .boolean)) (rmH h) [vr (3, a, b), vi x0, vi x1, vi x2] M N (qi P)) (k : ∀ r M1 N1, R32 r → P r M1 N1 → Go E RL cc nL ret R cl sl Z (pc + 3) L (vi r :: st) M1 N1) : Go E RL cc nL ret R cl sl Z (pc) L (vi x2 :: vi x1 :: vi x0 :: vr (3, a, b) :: st) M N := go_callV (As := [vi x0, vi x1, vi x2]) hd lL_133 rfl rfl rfl hct ⟨rfl, rfl⟩ ⟨Nat.le_of_ble_eq_true hR.1, Nat.le_of_ble_eq_true hR.2⟩ hc hcl (fun r M1 N1 h => by obtain ⟨z, rfl, h1, h⟩ := h; exact k z M1 N1 h1 h)
theorem kyX8_range : Cond.code yX8_range cX8_range 7 ((some .boolean)) ∈ BIG := bg7 206 (rfl) rfl
theorem kiyX8_range : Cond.initialized yX8_range.cls ∈ BIG := bg1 9 (by decide +kernel) rfl
theorem knyX8_range : Cond.instanceMethod yX8_range ∈ BIG := bg7 204 (by decide +kernel) rfl
theorem ksyX8_range : Cond.selects yX8_range.cls yX8_range yX8_range ∈ BIG := bg7 205 (by decide +kernel) rfl
theorem mwL_137 : Cond.methodLink RL 137 yX8_range ∈ BIG := bg7 203 (by decide +kernel) rfl
theorem lL_137 : LkV RL 137 8 yX8_range cX8_range 7 ((some .boolean)) 3 := ⟨mwL_137, knyX8_range, ksyX8_range, kiyX8_range, kyX8_range, ⟨_, rfl, rfl⟩, rfl, by decide +kernel, by decide +kernel, by decide +kernel⟩
/-- RoundedSumsModel.range -/
theorem vL_137 {E : Ev} {cc : ByteArray} {nL : Nat} {ret : Option FieldType} {R : Room} {cl sl : Nat} {Z : Zt} {pc : Nat} {L st : List Vv} {M : Mm} {N : Nn} {a b : Nat} {x0 : Int} {x1 : Int} {x2 : Int} {h : Nat} {P : Int → Mm → Nn → Prop} (hd : decode cc pc = .ok (.invokevirtual 137, 3)) (hct : Nat.ble (ctL st) 8 = true) (hR : Nat.ble (h + 1) R.frames = true ∧ Nat.ble (8 + (7 + 11) + 40 * h) R.locals = true) (hcl : Nat.ble cl R.cells = true ∧ Nat.ble sl R.slots = true) (hc : Ct E yX8_range cX8_range 7 ((some .boolean)) (rmH h) [vr (29, a, b), vi x0, vi x1, vi x2] M N (qi P)) (k : ∀ r M1 N1, R32 r → P r M1 N1 → Go E RL cc nL ret R cl sl Z (pc + 3) L (vi r :: st) M1 N1) : Go E RL cc nL ret R cl sl Z (pc) L (vi x2 :: vi x1 :: vi x0 :: vr (29, a, b) :: st) M N := go_callV (As := [vi x0, vi x1, vi x2]) hd lL_137 rfl rfl rfl hct ⟨rfl, rfl⟩ ⟨Nat.le_of_ble_eq_true hR.1, Nat.le_of_ble_eq_true hR.2⟩ hc hcl (fun r M1 N1 h => by obtain ⟨z, rfl, h1, h⟩ := h; exact k z M1 N1 h1 h)
theorem kyX8_doubtful : Cond.code yX8_doubtful cX8_doubtful 4 ((some .int)) ∈ BIG := bg7 212 (rfl) rfl
theorem kiyX8_doubtful : Cond.initialized yX8_doubtful.cls ∈ BIG := bg1 9 (by decide +kernel) rfl
theorem knyX8_doubtful : Cond.instanceMethod yX8_doubtful ∈ BIG := bg7 210 (by decide +kernel) rfl
theorem ksyX8_doubtful : Cond.selects yX8_doubtful.cls yX8_doubtful yX8_doubtful ∈ BIG := bg7 211 (by decide +kernel) rfl
theorem mwL_143 : Cond.methodLink RL 143 yX8_doubtful ∈ BIG := bg7 209 (by decide +kernel) rfl
theorem lL_143 : LkV RL 143 8 yX8_doubtful cX8_doubtful 4 ((some .int)) 1 := ⟨mwL_143, knyX8_doubtful, ksyX8_doubtful, kiyX8_doubtful, kyX8_doubtful, ⟨_, rfl, rfl⟩, rfl, by decide +kernel, by decide +kernel, by decide +kernel⟩
/-- RoundedSumsModel.doubtful -/
theorem vL_143 {E : Ev} {cc : ByteArray} {nL : Nat} {ret : Option FieldType} {R : Room} {cl sl : Nat} {Z : Zt} {pc : Nat} {L st : List Vv} {M : Mm} {N : Nn} {a b : Nat} {x0 : Int} {h : Nat} {P : Int → Mm → Nn → Prop} (hd : decode cc pc = .ok (.invokevirtual 143, 3)) (hct : Nat.ble (ctL st) 8 = true) (hR : Nat.ble (h + 1) R.frames = true ∧ Nat.ble (8 + (4 + 11) + 40 * h) R.locals = true) (hcl : Nat.ble cl R.cells = true ∧ Nat.ble sl R.slots = true) (hc : Ct E yX8_doubtful cX8_doubtful 4 ((some .int)) (rmH h) [vr (29, a, b), vi x0] M N (qi P)) (k : ∀ r M1 N1, R32 r → P r M1 N1 → Go E RL cc nL ret R cl sl Z (pc + 3) L (vi r :: st) M1 N1) : Go E RL cc nL ret R cl sl Z (pc) L (vi x0 :: vr (29, a, b) :: st) M N := go_callV (As := [vi x0]) hd lL_143 rfl rfl rfl hct ⟨rfl, rfl⟩ ⟨Nat.le_of_ble_eq_true hR.1, Nat.le_of_ble_eq_true hR.2⟩ hc hcl (fun r M1 N1 h => by obtain ⟨z, rfl, h1, h⟩ := h; exact k z M1 N1 h1 h)
theorem kyX8_thrown : Cond.code yX8_thrown cX8_thrown 1 ((some .int)) ∈ BIG := bg5 229 (rfl) rfl
theorem kiyX8_thrown : Cond.initialized yX8_thrown.cls ∈ BIG := bg1 9 (by decide +kernel) rfl
theorem knyX8_thrown : Cond.instanceMethod yX8_thrown ∈ BIG := bg5 227 (by decide +kernel) rfl
theorem ksyX8_thrown : Cond.selects yX8_thrown.cls yX8_thrown yX8_thrown ∈ BIG := bg5 228 (by decide +kernel) rfl
theorem mwL_144 : Cond.methodLink RL 144 yX8_thrown ∈ BIG := bg5 226 (by decide +kernel) rfl
theorem lL_144 : LkV RL 144 8 yX8_thrown cX8_thrown 1 ((some .int)) 0 := ⟨mwL_144, knyX8_thrown, ksyX8_thrown, kiyX8_thrown, kyX8_thrown, ⟨_, rfl, rfl⟩, rfl, by decide +kernel, by decide +kernel, by decide +kernel⟩
/-- RoundedSumsModel.thrown -/
theorem vL_144 {E : Ev} {cc : ByteArray} {nL : Nat} {ret : Option FieldType} {R : Room} {cl sl : Nat} {Z : Zt} {pc : Nat} {L st : List Vv} {M : Mm} {N : Nn} {a b : Nat}  {h : Nat} {P : Int → Mm → Nn → Prop} (hd : decode cc pc = .ok (.invokevirtual 144, 3)) (hct : Nat.ble (ctL st) 8 = true) (hR : Nat.ble (h + 1) R.frames = true ∧ Nat.ble (8 + (1 + 11) + 40 * h) R.locals = true) (hcl : Nat.ble cl R.cells = true ∧ Nat.ble sl R.slots = true) (hc : Ct E yX8_thrown cX8_thrown 1 ((some .int)) (rmH h) [vr (29, a, b)] M N (qi P)) (k : ∀ r M1 N1, R32 r → P r M1 N1 → Go E RL cc nL ret R cl sl Z (pc + 3) L (vi r :: st) M1 N1) : Go E RL cc nL ret R cl sl Z (pc) L (vr (29, a, b) :: st) M N := go_callV (As := []) hd lL_144 rfl rfl rfl hct ⟨rfl, rfl⟩ ⟨Nat.le_of_ble_eq_true hR.1, Nat.le_of_ble_eq_true hR.2⟩ hc hcl (fun r M1 N1 h => by obtain ⟨z, rfl, h1, h⟩ := h; exact k z M1 N1 h1 h)
theorem kyX7_size : Cond.code yX7_size cX7_size 1 ((some .int)) ∈ BIG := bg4 224 (rfl) rfl
theorem kiyX7_size : Cond.initialized yX7_size.cls ∈ BIG := bg1 1 (by decide +kernel) rfl
theorem knyX7_size : Cond.instanceMethod yX7_size ∈ BIG := bg4 222 (by decide +kernel) rfl
theorem ksyX7_size : Cond.selects yX7_size.cls yX7_size yX7_size ∈ BIG := bg4 223 (by decide +kernel) rfl
theorem mwL_147 : Cond.methodLink RL 147 yX7_size ∈ BIG := bg4 221 (by decide +kernel) rfl
theorem lL_147 : LkV RL 147 7 yX7_size cX7_size 1 ((some .int)) 0 := ⟨mwL_147, knyX7_size, ksyX7_size, kiyX7_size, kyX7_size, ⟨_, rfl, rfl⟩, rfl, by decide +kernel, by decide +kernel, by decide +kernel⟩
/-- RoundedSums.size -/
theorem vL_147 {E : Ev} {cc : ByteArray} {nL : Nat} {ret : Option FieldType} {R : Room} {cl sl : Nat} {Z : Zt} {pc : Nat} {L st : List Vv} {M : Mm} {N : Nn} {a b : Nat}  {h : Nat} {P : Int → Mm → Nn → Prop} (hd : decode cc pc = .ok (.invokevirtual 147, 3)) (hct : Nat.ble (ctL st) 8 = true) (hR : Nat.ble (h + 1) R.frames = true ∧ Nat.ble (8 + (1 + 11) + 40 * h) R.locals = true) (hcl : Nat.ble cl R.cells = true ∧ Nat.ble sl R.slots = true) (hc : Ct E yX7_size cX7_size 1 ((some .int)) (rmH h) [vr (3, a, b)] M N (qi P)) (k : ∀ r M1 N1, R32 r → P r M1 N1 → Go E RL cc nL ret R cl sl Z (pc + 3) L (vi r :: st) M1 N1) : Go E RL cc nL ret R cl sl Z (pc) L (vr (3, a, b) :: st) M N := go_callV (As := []) hd lL_147 rfl rfl rfl hct ⟨rfl, rfl⟩ ⟨Nat.le_of_ble_eq_true hR.1, Nat.le_of_ble_eq_true hR.2⟩ hc hcl (fun r M1 N1 h => by obtain ⟨z, rfl, h1, h⟩ := h; exact k z M1 N1 h1 h)
theorem kyX8_size : Cond.code yX8_size cX8_size 1 ((some .int)) ∈ BIG := bg7 216 (rfl) rfl
theorem kiyX8_size : Cond.initialized yX8_size.cls ∈ BIG := bg1 9 (by decide +kernel) rfl
theorem knyX8_size : Cond.instanceMethod yX8_size ∈ BIG := bg7 214 (by decide +kernel) rfl
theorem ksyX8_size : Cond.selects yX8_size.cls yX8_size yX8_size ∈ BIG := bg7 215 (by decide +kernel) rfl
theorem mwL_150 : Cond.methodLink RL 150 yX8_size ∈ BIG := bg7 213 (by decide +kernel) rfl
theorem lL_150 : LkV RL 150 8 yX8_size cX8_size 1 ((some .int)) 0 := ⟨mwL_150, knyX8_size, ksyX8_size, kiyX8_size, kyX8_size, ⟨_, rfl, rfl⟩, rfl, by decide +kernel, by decide +kernel, by decide +kernel⟩
/-- RoundedSumsModel.size -/
theorem vL_150 {E : Ev} {cc : ByteArray} {nL : Nat} {ret : Option FieldType} {R : Room} {cl sl : Nat} {Z : Zt} {pc : Nat} {L st : List Vv} {M : Mm} {N : Nn} {a b : Nat}  {h : Nat} {P : Int → Mm → Nn → Prop} (hd : decode cc pc = .ok (.invokevirtual 150, 3)) (hct : Nat.ble (ctL st) 8 = true) (hR : Nat.ble (h + 1) R.frames = true ∧ Nat.ble (8 + (1 + 11) + 40 * h) R.locals = true) (hcl : Nat.ble cl R.cells = true ∧ Nat.ble sl R.slots = true) (hc : Ct E yX8_size cX8_size 1 ((some .int)) (rmH h) [vr (29, a, b)] M N (qi P)) (k : ∀ r M1 N1, R32 r → P r M1 N1 → Go E RL cc nL ret R cl sl Z (pc + 3) L (vi r :: st) M1 N1) : Go E RL cc nL ret R cl sl Z (pc) L (vr (29, a, b) :: st) M N := go_callV (As := []) hd lL_150 rfl rfl rfl hct ⟨rfl, rfl⟩ ⟨Nat.le_of_ble_eq_true hR.1, Nat.le_of_ble_eq_true hR.2⟩ hc hcl (fun r M1 N1 h => by obtain ⟨z, rfl, h1, h⟩ := h; exact k z M1 N1 h1 h)
theorem kyX7_trouble : Cond.code yX7_trouble cX7_trouble 1 ((some .int)) ∈ BIG := bg4 228 (rfl) rfl
theorem kiyX7_trouble : Cond.initialized yX7_trouble.cls ∈ BIG := bg1 1 (by decide +kernel) rfl
theorem knyX7_trouble : Cond.instanceMethod yX7_trouble ∈ BIG := bg4 226 (by decide +kernel) rfl
theorem ksyX7_trouble : Cond.selects yX7_trouble.cls yX7_trouble yX7_trouble ∈ BIG := bg4 227 (by decide +kernel) rfl
theorem mwL_151 : Cond.methodLink RL 151 yX7_trouble ∈ BIG := bg4 225 (by decide +kernel) rfl
theorem lL_151 : LkV RL 151 7 yX7_trouble cX7_trouble 1 ((some .int)) 0 := ⟨mwL_151, knyX7_trouble, ksyX7_trouble, kiyX7_trouble, kyX7_trouble, ⟨_, rfl, rfl⟩, rfl, by decide +kernel, by decide +kernel, by decide +kernel⟩
/-- RoundedSums.trouble -/
theorem vL_151 {E : Ev} {cc : ByteArray} {nL : Nat} {ret : Option FieldType} {R : Room} {cl sl : Nat} {Z : Zt} {pc : Nat} {L st : List Vv} {M : Mm} {N : Nn} {a b : Nat}  {h : Nat} {P : Int → Mm → Nn → Prop} (hd : decode cc pc = .ok (.invokevirtual 151, 3)) (hct : Nat.ble (ctL st) 8 = true) (hR : Nat.ble (h + 1) R.frames = true ∧ Nat.ble (8 + (1 + 11) + 40 * h) R.locals = true) (hcl : Nat.ble cl R.cells = true ∧ Nat.ble sl R.slots = true) (hc : Ct E yX7_trouble cX7_trouble 1 ((some .int)) (rmH h) [vr (3, a, b)] M N (qi P)) (k : ∀ r M1 N1, R32 r → P r M1 N1 → Go E RL cc nL ret R cl sl Z (pc + 3) L (vi r :: st) M1 N1) : Go E RL cc nL ret R cl sl Z (pc) L (vr (3, a, b) :: st) M N := go_callV (As := []) hd lL_151 rfl rfl rfl hct ⟨rfl, rfl⟩ ⟨Nat.le_of_ble_eq_true hR.1, Nat.le_of_ble_eq_true hR.2⟩ hc hcl (fun r M1 N1 h => by obtain ⟨z, rfl, h1, h⟩ := h; exact k z M1 N1 h1 h)
theorem kyX8_trouble : Cond.code yX8_trouble cX8_trouble 1 ((some .int)) ∈ BIG := bg7 220 (rfl) rfl
theorem kiyX8_trouble : Cond.initialized yX8_trouble.cls ∈ BIG := bg1 9 (by decide +kernel) rfl
theorem knyX8_trouble : Cond.instanceMethod yX8_trouble ∈ BIG := bg7 218 (by decide +kernel) rfl
theorem ksyX8_trouble : Cond.selects yX8_trouble.cls yX8_trouble yX8_trouble ∈ BIG := bg7 219 (by decide +kernel) rfl
theorem mwL_154 : Cond.methodLink RL 154 yX8_trouble ∈ BIG := bg7 217 (by decide +kernel) rfl
theorem lL_154 : LkV RL 154 8 yX8_trouble cX8_trouble 1 ((some .int)) 0 := ⟨mwL_154, knyX8_trouble, ksyX8_trouble, kiyX8_trouble, kyX8_trouble, ⟨_, rfl, rfl⟩, rfl, by decide +kernel, by decide +kernel, by decide +kernel⟩
/-- RoundedSumsModel.trouble -/
theorem vL_154 {E : Ev} {cc : ByteArray} {nL : Nat} {ret : Option FieldType} {R : Room} {cl sl : Nat} {Z : Zt} {pc : Nat} {L st : List Vv} {M : Mm} {N : Nn} {a b : Nat}  {h : Nat} {P : Int → Mm → Nn → Prop} (hd : decode cc pc = .ok (.invokevirtual 154, 3)) (hct : Nat.ble (ctL st) 8 = true) (hR : Nat.ble (h + 1) R.frames = true ∧ Nat.ble (8 + (1 + 11) + 40 * h) R.locals = true) (hcl : Nat.ble cl R.cells = true ∧ Nat.ble sl R.slots = true) (hc : Ct E yX8_trouble cX8_trouble 1 ((some .int)) (rmH h) [vr (29, a, b)] M N (qi P)) (k : ∀ r M1 N1, R32 r → P r M1 N1 → Go E RL cc nL ret R cl sl Z (pc + 3) L (vi r :: st) M1 N1) : Go E RL cc nL ret R cl sl Z (pc) L (vr (29, a, b) :: st) M N := go_callV (As := []) hd lL_154 rfl rfl rfl hct ⟨rfl, rfl⟩ ⟨Nat.le_of_ble_eq_true hR.1, Nat.le_of_ble_eq_true hR.2⟩ hc hcl (fun r M1 N1 h => by obtain ⟨z, rfl, h1, h⟩ := h; exact k z M1 N1 h1 h)
theorem kyX8_laysWord : Cond.code yX8_laysWord cX8_laysWord 3 (none) ∈ BIG := bg5 237 (rfl) rfl
theorem kiyX8_laysWord : Cond.initialized yX8_laysWord.cls ∈ BIG := bg1 9 (by decide +kernel) rfl
theorem knyX8_laysWord : Cond.instanceMethod yX8_laysWord ∈ BIG := bg5 236 (by decide +kernel) rfl
theorem ksyX8_laysWord : Cond.selects yX8_laysWord.cls yX8_laysWord yX8_laysWord ∈ BIG := bgp (q := (yX8_laysWord, 52)) (List.mem_of_getElem? (i := 48) (by decide +kernel)) rfl
theorem mw8_116 : Cond.methodLink RX8 116 yX8_laysWord ∈ BIG := bg5 234 (by decide +kernel) rfl
theorem l8_116 : LkV RX8 116 8 yX8_laysWord cX8_laysWord 3 (none) 1 := ⟨mw8_116, knyX8_laysWord, ksyX8_laysWord, kiyX8_laysWord, kyX8_laysWord, ⟨_, rfl, rfl⟩, rfl, by decide +kernel, by decide +kernel, by decide +kernel⟩
/-- RoundedSumsModel.laysWord -/
theorem v8_116 {E : Ev} {cc : ByteArray} {nL : Nat} {ret : Option FieldType} {R : Room} {cl sl : Nat} {Z : Zt} {pc : Nat} {L st : List Vv} {M : Mm} {N : Nn} {a b : Nat} {x0 : Int} {h : Nat} {P : Mm → Nn → Prop} (hd : decode cc pc = .ok (.invokevirtual 116, 3)) (hct : Nat.ble (ctL st) 8 = true) (hR : Nat.ble (h + 1) R.frames = true ∧ Nat.ble (8 + (3 + 11) + 40 * h) R.locals = true) (hcl : Nat.ble cl R.cells = true ∧ Nat.ble sl R.slots = true) (hc : Ct E yX8_laysWord cX8_laysWord 3 (none) (rmH h) [vr (29, a, b), vi x0] M N (qv P)) (k : ∀ M1 N1, P M1 N1 → Go E RX8 cc nL ret R cl sl Z (pc + 3) L (st) M1 N1) : Go E RX8 cc nL ret R cl sl Z (pc) L (vi x0 :: vr (29, a, b) :: st) M N := go_callV (As := [vi x0]) hd l8_116 rfl rfl rfl hct ⟨rfl, rfl⟩ ⟨Nat.le_of_ble_eq_true hR.1, Nat.le_of_ble_eq_true hR.2⟩ hc hcl (fun r M1 N1 h => by obtain ⟨rfl, h⟩ := h; exact k M1 N1 h)
theorem kyX8_see : Cond.code yX8_see cX8_see 2 ((some .int)) ∈ BIG := bg6 20 (rfl) rfl
theorem kiyX8_see : Cond.initialized yX8_see.cls ∈ BIG := bg1 9 (by decide +kernel) rfl
theorem knyX8_see : Cond.instanceMethod yX8_see ∈ BIG := bg6 19 (by decide +kernel) rfl
theorem ksyX8_see : Cond.selects yX8_see.cls yX8_see yX8_see ∈ BIG := bgp (q := (yX8_see, 52)) (List.mem_of_getElem? (i := 52) (by decide +kernel)) rfl
theorem mw8_126 : Cond.methodLink RX8 126 yX8_see ∈ BIG := bg6 17 (by decide +kernel) rfl
theorem l8_126 : LkV RX8 126 8 yX8_see cX8_see 2 ((some .int)) 1 := ⟨mw8_126, knyX8_see, ksyX8_see, kiyX8_see, kyX8_see, ⟨_, rfl, rfl⟩, rfl, by decide +kernel, by decide +kernel, by decide +kernel⟩
/-- RoundedSumsModel.see -/
theorem v8_126 {E : Ev} {cc : ByteArray} {nL : Nat} {ret : Option FieldType} {R : Room} {cl sl : Nat} {Z : Zt} {pc : Nat} {L st : List Vv} {M : Mm} {N : Nn} {a b : Nat} {x0 : Int} {h : Nat} {P : Int → Mm → Nn → Prop} (hd : decode cc pc = .ok (.invokevirtual 126, 3)) (hct : Nat.ble (ctL st) 8 = true) (hR : Nat.ble (h + 1) R.frames = true ∧ Nat.ble (8 + (2 + 11) + 40 * h) R.locals = true) (hcl : Nat.ble cl R.cells = true ∧ Nat.ble sl R.slots = true) (hc : Ct E yX8_see cX8_see 2 ((some .int)) (rmH h) [vr (29, a, b), vi x0] M N (qi P)) (k : ∀ r M1 N1, R32 r → P r M1 N1 → Go E RX8 cc nL ret R cl sl Z (pc + 3) L (vi r :: st) M1 N1) : Go E RX8 cc nL ret R cl sl Z (pc) L (vi x0 :: vr (29, a, b) :: st) M N := go_callV (As := [vi x0]) hd l8_126 rfl rfl rfl hct ⟨rfl, rfl⟩ ⟨Nat.le_of_ble_eq_true hR.1, Nat.le_of_ble_eq_true hR.2⟩ hc hcl (fun r M1 N1 h => by obtain ⟨z, rfl, h1, h⟩ := h; exact k z M1 N1 h1 h)
theorem kyX8_in : Cond.code yX8_in cX8_in 6 ((some .boolean)) ∈ BIG := bg6 4 (rfl) rfl
theorem kiyX8_in : Cond.initialized yX8_in.cls ∈ BIG := bg1 9 (by decide +kernel) rfl
theorem ktyX8_in : Cond.static yX8_in ∈ BIG := bg6 3 (by decide +kernel) rfl
theorem mw8_140 : Cond.methodLink RX8 140 yX8_in ∈ BIG := bg6 2 (by decide +kernel) rfl
theorem l8_140 : LkS RX8 140 yX8_in cX8_in 6 ((some .boolean)) 3 := ⟨mw8_140, ktyX8_in, kiyX8_in, kyX8_in, by decide +kernel, by decide +kernel, by decide +kernel⟩
/-- RoundedSumsModel.in -/
theorem v8_140 {E : Ev} {cc : ByteArray} {nL : Nat} {ret : Option FieldType} {R : Room} {cl sl : Nat} {Z : Zt} {pc : Nat} {L st : List Vv} {M : Mm} {N : Nn} {x0 : Int} {x1 : Int} {x2 : Int} {h : Nat} {P : Int → Mm → Nn → Prop} (hd : decode cc pc = .ok (.invokestatic 140, 3)) (hct : Nat.ble (ctL st) 8 = true) (hR : Nat.ble (h + 1) R.frames = true ∧ Nat.ble (8 + (6 + 11) + 40 * h) R.locals = true) (hcl : Nat.ble cl R.cells = true ∧ Nat.ble sl R.slots = true) (hc : Ct E yX8_in cX8_in 6 ((some .boolean)) (rmH h) [vl x0, vl x1, vl x2] M N (qi P)) (k : ∀ r M1 N1, R32 r → P r M1 N1 → Go E RX8 cc nL ret R cl sl Z (pc + 3) L (vi r :: st) M1 N1) : Go E RX8 cc nL ret R cl sl Z (pc) L (vl x2 :: vl x1 :: vl x0 :: st) M N := go_callS (As := [vl x0, vl x1, vl x2]) hd l8_140 rfl rfl hct ⟨rfl, rfl⟩ ⟨Nat.le_of_ble_eq_true hR.1, Nat.le_of_ble_eq_true hR.2⟩ hc hcl (fun r M1 N1 h => by obtain ⟨z, rfl, h1, h⟩ := h; exact k z M1 N1 h1 h)
theorem mw8_151 : Cond.methodLink RX8 151 yJ0_length_8abf5 ∈ BIG := bg6 34 (by decide +kernel) rfl
theorem mw8_157 : Cond.methodLink RX8 157 yJ0_charAt_5068e ∈ BIG := bg6 35 (by decide +kernel) rfl
theorem kyX8_isName : Cond.code yX8_isName cX8_isName 3 ((some .boolean)) ∈ BIG := bg6 33 (rfl) rfl
theorem kiyX8_isName : Cond.initialized yX8_isName.cls ∈ BIG := bg1 9 (by decide +kernel) rfl
theorem knyX8_isName : Cond.instanceMethod yX8_isName ∈ BIG := bg6 32 (by decide +kernel) rfl
theorem ksyX8_isName : Cond.selects yX8_isName.cls yX8_isName yX8_isName ∈ BIG := bgp (q := (yX8_isName, 52)) (List.mem_of_getElem? (i := 54) (by decide +kernel)) rfl
theorem mw8_167 : Cond.methodLink RX8 167 yX8_isName ∈ BIG := bg6 30 (by decide +kernel) rfl
theorem l8_167 : LkV RX8 167 8 yX8_isName cX8_isName 3 ((some .boolean)) 1 := ⟨mw8_167, knyX8_isName, ksyX8_isName, kiyX8_isName, kyX8_isName, ⟨_, rfl, rfl⟩, rfl, by decide +kernel, by decide +kernel, by decide +kernel⟩
/-- RoundedSumsModel.isName -/
theorem v8_167 {E : Ev} {cc : ByteArray} {nL : Nat} {ret : Option FieldType} {R : Room} {cl sl : Nat} {Z : Zt} {pc : Nat} {L st : List Vv} {M : Mm} {N : Nn} {a b : Nat} {x0 : Nm} {h : Nat} {P : Int → Mm → Nn → Prop} (hd : decode cc pc = .ok (.invokevirtual 167, 3)) (hct : Nat.ble (ctL st) 8 = true) (hR : Nat.ble (h + 1) R.frames = true ∧ Nat.ble (8 + (3 + 11) + 40 * h) R.locals = true) (hcl : Nat.ble cl R.cells = true ∧ Nat.ble sl R.slots = true) (hc : Ct E yX8_isName cX8_isName 3 ((some .boolean)) (rmH h) [vr (29, a, b), vr x0] M N (qi P)) (k : ∀ r M1 N1, R32 r → P r M1 N1 → Go E RX8 cc nL ret R cl sl Z (pc + 3) L (vi r :: st) M1 N1) : Go E RX8 cc nL ret R cl sl Z (pc) L (vr x0 :: vr (29, a, b) :: st) M N := go_callV (As := [vr x0]) hd l8_167 rfl rfl rfl hct ⟨rfl, rfl⟩ ⟨Nat.le_of_ble_eq_true hR.1, Nat.le_of_ble_eq_true hR.2⟩ hc hcl (fun r M1 N1 h => by obtain ⟨z, rfl, h1, h⟩ := h; exact k z M1 N1 h1 h)
theorem kyX8_errs : Cond.code yX8_errs cX8_errs 2 ((some .boolean)) ∈ BIG := bg6 43 (rfl) rfl
theorem kiyX8_errs : Cond.initialized yX8_errs.cls ∈ BIG := bg1 9 (by decide +kernel) rfl
theorem knyX8_errs : Cond.instanceMethod yX8_errs ∈ BIG := bg6 42 (by decide +kernel) rfl
theorem ksyX8_errs : Cond.selects yX8_errs.cls yX8_errs yX8_errs ∈ BIG := bgp (q := (yX8_errs, 52)) (List.mem_of_getElem? (i := 56) (by decide +kernel)) rfl
theorem mw8_171 : Cond.methodLink RX8 171 yX8_errs ∈ BIG := bg6 40 (by decide +kernel) rfl
theorem l8_171 : LkV RX8 171 8 yX8_errs cX8_errs 2 ((some .boolean)) 1 := ⟨mw8_171, knyX8_errs, ksyX8_errs, kiyX8_errs, kyX8_errs, ⟨_, rfl, rfl⟩, rfl, by decide +kernel, by decide +kernel, by decide +kernel⟩
/-- RoundedSumsModel.errs -/
theorem v8_171 {E : Ev} {cc : ByteArray} {nL : Nat} {ret : Option FieldType} {R : Room} {cl sl : Nat} {Z : Zt} {pc : Nat} {L st : List Vv} {M : Mm} {N : Nn} {a b : Nat} {x0 : Int} {h : Nat} {P : Int → Mm → Nn → Prop} (hd : decode cc pc = .ok (.invokevirtual 171, 3)) (hct : Nat.ble (ctL st) 8 = true) (hR : Nat.ble (h + 1) R.frames = true ∧ Nat.ble (8 + (2 + 11) + 40 * h) R.locals = true) (hcl : Nat.ble cl R.cells = true ∧ Nat.ble sl R.slots = true) (hc : Ct E yX8_errs cX8_errs 2 ((some .boolean)) (rmH h) [vr (29, a, b), vi x0] M N (qi P)) (k : ∀ r M1 N1, R32 r → P r M1 N1 → Go E RX8 cc nL ret R cl sl Z (pc + 3) L (vi r :: st) M1 N1) : Go E RX8 cc nL ret R cl sl Z (pc) L (vi x0 :: vr (29, a, b) :: st) M N := go_callV (As := [vi x0]) hd l8_171 rfl rfl rfl hct ⟨rfl, rfl⟩ ⟨Nat.le_of_ble_eq_true hR.1, Nat.le_of_ble_eq_true hR.2⟩ hc hcl (fun r M1 N1 h => by obtain ⟨z, rfl, h1, h⟩ := h; exact k z M1 N1 h1 h)
theorem kyX8_goesOn : Cond.code yX8_goesOn cX8_goesOn 2 (none) ∈ BIG := bg6 16 (rfl) rfl
theorem kiyX8_goesOn : Cond.initialized yX8_goesOn.cls ∈ BIG := bg1 9 (by decide +kernel) rfl
theorem knyX8_goesOn : Cond.instanceMethod yX8_goesOn ∈ BIG := bg6 15 (by decide +kernel) rfl
theorem ksyX8_goesOn : Cond.selects yX8_goesOn.cls yX8_goesOn yX8_goesOn ∈ BIG := bgp (q := (yX8_goesOn, 52)) (List.mem_of_getElem? (i := 51) (by decide +kernel)) rfl
theorem mw8_175 : Cond.methodLink RX8 175 yX8_goesOn ∈ BIG := bg6 13 (by decide +kernel) rfl
theorem l8_175 : LkV RX8 175 8 yX8_goesOn cX8_goesOn 2 (none) 0 := ⟨mw8_175, knyX8_goesOn, ksyX8_goesOn, kiyX8_goesOn, kyX8_goesOn, ⟨_, rfl, rfl⟩, rfl, by decide +kernel, by decide +kernel, by decide +kernel⟩
/-- RoundedSumsModel.goesOn -/
theorem v8_175 {E : Ev} {cc : ByteArray} {nL : Nat} {ret : Option FieldType} {R : Room} {cl sl : Nat} {Z : Zt} {pc : Nat} {L st : List Vv} {M : Mm} {N : Nn} {a b : Nat}  {h : Nat} {P : Mm → Nn → Prop} (hd : decode cc pc = .ok (.invokevirtual 175, 3)) (hct : Nat.ble (ctL st) 8 = true) (hR : Nat.ble (h + 1) R.frames = true ∧ Nat.ble (8 + (2 + 11) + 40 * h) R.locals = true) (hcl : Nat.ble cl R.cells = true ∧ Nat.ble sl R.slots = true) (hc : Ct E yX8_goesOn cX8_goesOn 2 (none) (rmH h) [vr (29, a, b)] M N (qv P)) (k : ∀ M1 N1, P M1 N1 → Go E RX8 cc nL ret R cl sl Z (pc + 3) L (st) M1 N1) : Go E RX8 cc nL ret R cl sl Z (pc) L (vr (29, a, b) :: st) M N := go_callV (As := []) hd l8_175 rfl rfl rfl hct ⟨rfl, rfl⟩ ⟨Nat.le_of_ble_eq_true hR.1, Nat.le_of_ble_eq_true hR.2⟩ hc hcl (fun r M1 N1 h => by obtain ⟨rfl, h⟩ := h; exact k M1 N1 h)
theorem kyX8_isKept : Cond.code yX8_isKept cX8_isKept 1 ((some .boolean)) ∈ BIG := bg6 55 (rfl) rfl
theorem kiyX8_isKept : Cond.initialized yX8_isKept.cls ∈ BIG := bg1 9 (by decide +kernel) rfl
theorem knyX8_isKept : Cond.instanceMethod yX8_isKept ∈ BIG := bg6 54 (by decide +kernel) rfl
theorem ksyX8_isKept : Cond.selects yX8_isKept.cls yX8_isKept yX8_isKept ∈ BIG := bgp (q := (yX8_isKept, 52)) (List.mem_of_getElem? (i := 59) (by decide +kernel)) rfl
theorem mw8_195 : Cond.methodLink RX8 195 yX8_isKept ∈ BIG := bg6 52 (by decide +kernel) rfl
theorem l8_195 : LkV RX8 195 8 yX8_isKept cX8_isKept 1 ((some .boolean)) 0 := ⟨mw8_195, knyX8_isKept, ksyX8_isKept, kiyX8_isKept, kyX8_isKept, ⟨_, rfl, rfl⟩, rfl, by decide +kernel, by decide +kernel, by decide +kernel⟩
/-- RoundedSumsModel.isKept -/
theorem v8_195 {E : Ev} {cc : ByteArray} {nL : Nat} {ret : Option FieldType} {R : Room} {cl sl : Nat} {Z : Zt} {pc : Nat} {L st : List Vv} {M : Mm} {N : Nn} {a b : Nat}  {h : Nat} {P : Int → Mm → Nn → Prop} (hd : decode cc pc = .ok (.invokevirtual 195, 3)) (hct : Nat.ble (ctL st) 8 = true) (hR : Nat.ble (h + 1) R.frames = true ∧ Nat.ble (8 + (1 + 11) + 40 * h) R.locals = true) (hcl : Nat.ble cl R.cells = true ∧ Nat.ble sl R.slots = true) (hc : Ct E yX8_isKept cX8_isKept 1 ((some .boolean)) (rmH h) [vr (29, a, b)] M N (qi P)) (k : ∀ r M1 N1, R32 r → P r M1 N1 → Go E RX8 cc nL ret R cl sl Z (pc + 3) L (vi r :: st) M1 N1) : Go E RX8 cc nL ret R cl sl Z (pc) L (vr (29, a, b) :: st) M N := go_callV (As := []) hd l8_195 rfl rfl rfl hct ⟨rfl, rfl⟩ ⟨Nat.le_of_ble_eq_true hR.1, Nat.le_of_ble_eq_true hR.2⟩ hc hcl (fun r M1 N1 h => by obtain ⟨z, rfl, h1, h⟩ := h; exact k z M1 N1 h1 h)
theorem kyX8_isNameHere : Cond.code yX8_isNameHere cX8_isNameHere 1 ((some .boolean)) ∈ BIG := bg6 51 (rfl) rfl
theorem kiyX8_isNameHere : Cond.initialized yX8_isNameHere.cls ∈ BIG := bg1 9 (by decide +kernel) rfl
theorem knyX8_isNameHere : Cond.instanceMethod yX8_isNameHere ∈ BIG := bg6 50 (by decide +kernel) rfl
theorem ksyX8_isNameHere : Cond.selects yX8_isNameHere.cls yX8_isNameHere yX8_isNameHere ∈ BIG := bgp (q := (yX8_isNameHere, 52)) (List.mem_of_getElem? (i := 58) (by decide +kernel)) rfl
theorem mw8_202 : Cond.methodLink RX8 202 yX8_isNameHere ∈ BIG := bg6 48 (by decide +kernel) rfl
theorem l8_202 : LkV RX8 202 8 yX8_isNameHere cX8_isNameHere 1 ((some .boolean)) 0 := ⟨mw8_202, knyX8_isNameHere, ksyX8_isNameHere, kiyX8_isNameHere, kyX8_isNameHere, ⟨_, rfl, rfl⟩, rfl, by decide +kernel, by decide +kernel, by decide +kernel⟩
/-- RoundedSumsModel.isNameHere -/
theorem v8_202 {E : Ev} {cc : ByteArray} {nL : Nat} {ret : Option FieldType} {R : Room} {cl sl : Nat} {Z : Zt} {pc : Nat} {L st : List Vv} {M : Mm} {N : Nn} {a b : Nat}  {h : Nat} {P : Int → Mm → Nn → Prop} (hd : decode cc pc = .ok (.invokevirtual 202, 3)) (hct : Nat.ble (ctL st) 8 = true) (hR : Nat.ble (h + 1) R.frames = true ∧ Nat.ble (8 + (1 + 11) + 40 * h) R.locals = true) (hcl : Nat.ble cl R.cells = true ∧ Nat.ble sl R.slots = true) (hc : Ct E yX8_isNameHere cX8_isNameHere 1 ((some .boolean)) (rmH h) [vr (29, a, b)] M N (qi P)) (k : ∀ r M1 N1, R32 r → P r M1 N1 → Go E RX8 cc nL ret R cl sl Z (pc + 3) L (vi r :: st) M1 N1) : Go E RX8 cc nL ret R cl sl Z (pc) L (vr (29, a, b) :: st) M N := go_callV (As := []) hd l8_202 rfl rfl rfl hct ⟨rfl, rfl⟩ ⟨Nat.le_of_ble_eq_true hR.1, Nat.le_of_ble_eq_true hR.2⟩ hc hcl (fun r M1 N1 h => by obtain ⟨z, rfl, h1, h⟩ := h; exact k z M1 N1 h1 h)
theorem kyX8_toldAt : Cond.code yX8_toldAt cX8_toldAt 4 ((some .int)) ∈ BIG := bg6 66 (rfl) rfl
theorem kiyX8_toldAt : Cond.initialized yX8_toldAt.cls ∈ BIG := bg1 9 (by decide +kernel) rfl
theorem knyX8_toldAt : Cond.instanceMethod yX8_toldAt ∈ BIG := bg6 65 (by decide +kernel) rfl
theorem ksyX8_toldAt : Cond.selects yX8_toldAt.cls yX8_toldAt yX8_toldAt ∈ BIG := bgp (q := (yX8_toldAt, 52)) (List.mem_of_getElem? (i := 60) (by decide +kernel)) rfl
theorem mw8_205 : Cond.methodLink RX8 205 yX8_toldAt ∈ BIG := bg6 63 (by decide +kernel) rfl
theorem l8_205 : LkV RX8 205 8 yX8_toldAt cX8_toldAt 4 ((some .int)) 0 := ⟨mw8_205, knyX8_toldAt, ksyX8_toldAt, kiyX8_toldAt, kyX8_toldAt, ⟨_, rfl, rfl⟩, rfl, by decide +kernel, by decide +kernel, by decide +kernel⟩
/-- RoundedSumsModel.toldAt -/
theorem v8_205 {E : Ev} {cc : ByteArray} {nL : Nat} {ret : Option FieldType} {R : Room} {cl sl : Nat} {Z : Zt} {pc : Nat} {L st : List Vv} {M : Mm} {N : Nn} {a b : Nat}  {h : Nat} {P : Int → Mm → Nn → Prop} (hd : decode cc pc = .ok (.invokevirtual 205, 3)) (hct : Nat.ble (ctL st) 8 = true) (hR : Nat.ble (h + 1) R.frames = true ∧ Nat.ble (8 + (4 + 11) + 40 * h) R.locals = true) (hcl : Nat.ble cl R.cells = true ∧ Nat.ble sl R.slots = true) (hc : Ct E yX8_toldAt cX8_toldAt 4 ((some .int)) (rmH h) [vr (29, a, b)] M N (qi P)) (k : ∀ r M1 N1, R32 r → P r M1 N1 → Go E RX8 cc nL ret R cl sl Z (pc + 3) L (vi r :: st) M1 N1) : Go E RX8 cc nL ret R cl sl Z (pc) L (vr (29, a, b) :: st) M N := go_callV (As := []) hd l8_205 rfl rfl rfl hct ⟨rfl, rfl⟩ ⟨Nat.le_of_ble_eq_true hR.1, Nat.le_of_ble_eq_true hR.2⟩ hc hcl (fun r M1 N1 h => by obtain ⟨z, rfl, h1, h⟩ := h; exact k z M1 N1 h1 h)
theorem kyX8_readName : Cond.code yX8_readName cX8_readName 1 ((some .boolean)) ∈ BIG := bg6 47 (rfl) rfl
theorem kiyX8_readName : Cond.initialized yX8_readName.cls ∈ BIG := bg1 9 (by decide +kernel) rfl
theorem knyX8_readName : Cond.instanceMethod yX8_readName ∈ BIG := bg6 46 (by decide +kernel) rfl
theorem ksyX8_readName : Cond.selects yX8_readName.cls yX8_readName yX8_readName ∈ BIG := bgp (q := (yX8_readName, 52)) (List.mem_of_getElem? (i := 57) (by decide +kernel)) rfl
theorem mw8_211 : Cond.methodLink RX8 211 yX8_readName ∈ BIG := bg6 44 (by decide +kernel) rfl
theorem l8_211 : LkV RX8 211 8 yX8_readName cX8_readName 1 ((some .boolean)) 0 := ⟨mw8_211, knyX8_readName, ksyX8_readName, kiyX8_readName, kyX8_readName, ⟨_, rfl, rfl⟩, rfl, by decide +kernel, by decide +kernel, by decide +kernel⟩
/-- RoundedSumsModel.readName -/
theorem v8_211 {E : Ev} {cc : ByteArray} {nL : Nat} {ret : Option FieldType} {R : Room} {cl sl : Nat} {Z : Zt} {pc : Nat} {L st : List Vv} {M : Mm} {N : Nn} {a b : Nat}  {h : Nat} {P : Int → Mm → Nn → Prop} (hd : decode cc pc = .ok (.invokevirtual 211, 3)) (hct : Nat.ble (ctL st) 8 = true) (hR : Nat.ble (h + 1) R.frames = true ∧ Nat.ble (8 + (1 + 11) + 40 * h) R.locals = true) (hcl : Nat.ble cl R.cells = true ∧ Nat.ble sl R.slots = true) (hc : Ct E yX8_readName cX8_readName 1 ((some .boolean)) (rmH h) [vr (29, a, b)] M N (qi P)) (k : ∀ r M1 N1, R32 r → P r M1 N1 → Go E RX8 cc nL ret R cl sl Z (pc + 3) L (vi r :: st) M1 N1) : Go E RX8 cc nL ret R cl sl Z (pc) L (vr (29, a, b) :: st) M N := go_callV (As := []) hd l8_211 rfl rfl rfl hct ⟨rfl, rfl⟩ ⟨Nat.le_of_ble_eq_true hR.1, Nat.le_of_ble_eq_true hR.2⟩ hc hcl (fun r M1 N1 h => by obtain ⟨z, rfl, h1, h⟩ := h; exact k z M1 N1 h1 h)
theorem kyX8_passes : Cond.code yX8_passes cX8_passes 2 ((some .boolean)) ∈ BIG := bg6 70 (rfl) rfl
theorem kiyX8_passes : Cond.initialized yX8_passes.cls ∈ BIG := bg1 9 (by decide +kernel) rfl
theorem knyX8_passes : Cond.instanceMethod yX8_passes ∈ BIG := bg6 69 (by decide +kernel) rfl
theorem ksyX8_passes : Cond.selects yX8_passes.cls yX8_passes yX8_passes ∈ BIG := bgp (q := (yX8_passes, 52)) (List.mem_of_getElem? (i := 61) (by decide +kernel)) rfl
theorem mw8_214 : Cond.methodLink RX8 214 yX8_passes ∈ BIG := bg6 67 (by decide +kernel) rfl
theorem l8_214 : LkV RX8 214 8 yX8_passes cX8_passes 2 ((some .boolean)) 1 := ⟨mw8_214, knyX8_passes, ksyX8_passes, kiyX8_passes, kyX8_passes, ⟨_, rfl, rfl⟩, rfl, by decide +kernel, by decide +kernel, by decide +kernel⟩
/-- RoundedSumsModel.passes -/
theorem v8_214 {E : Ev} {cc : ByteArray} {nL : Nat} {ret : Option FieldType} {R : Room} {cl sl : Nat} {Z : Zt} {pc : Nat} {L st : List Vv} {M : Mm} {N : Nn} {a b : Nat} {x0 : Nm} {h : Nat} {P : Int → Mm → Nn → Prop} (hd : decode cc pc = .ok (.invokevirtual 214, 3)) (hct : Nat.ble (ctL st) 8 = true) (hR : Nat.ble (h + 1) R.frames = true ∧ Nat.ble (8 + (2 + 11) + 40 * h) R.locals = true) (hcl : Nat.ble cl R.cells = true ∧ Nat.ble sl R.slots = true) (hc : Ct E yX8_passes cX8_passes 2 ((some .boolean)) (rmH h) [vr (29, a, b), vr x0] M N (qi P)) (k : ∀ r M1 N1, R32 r → P r M1 N1 → Go E RX8 cc nL ret R cl sl Z (pc + 3) L (vi r :: st) M1 N1) : Go E RX8 cc nL ret R cl sl Z (pc) L (vr x0 :: vr (29, a, b) :: st) M N := go_callV (As := [vr x0]) hd l8_214 rfl rfl rfl hct ⟨rfl, rfl⟩ ⟨Nat.le_of_ble_eq_true hR.1, Nat.le_of_ble_eq_true hR.2⟩ hc hcl (fun r M1 N1 h => by obtain ⟨z, rfl, h1, h⟩ := h; exact k z M1 N1 h1 h)
theorem kyX8_seesNumber : Cond.code yX8_seesNumber cX8_seesNumber 4 ((some .boolean)) ∈ BIG := bg6 74 (rfl) rfl
theorem kiyX8_seesNumber : Cond.initialized yX8_seesNumber.cls ∈ BIG := bg1 9 (by decide +kernel) rfl
theorem knyX8_seesNumber : Cond.instanceMethod yX8_seesNumber ∈ BIG := bg6 73 (by decide +kernel) rfl
theorem ksyX8_seesNumber : Cond.selects yX8_seesNumber.cls yX8_seesNumber yX8_seesNumber ∈ BIG := bgp (q := (yX8_seesNumber, 52)) (List.mem_of_getElem? (i := 62) (by decide +kernel)) rfl
theorem mw8_217 : Cond.methodLink RX8 217 yX8_seesNumber ∈ BIG := bg6 71 (by decide +kernel) rfl
theorem l8_217 : LkV RX8 217 8 yX8_seesNumber cX8_seesNumber 4 ((some .boolean)) 2 := ⟨mw8_217, knyX8_seesNumber, ksyX8_seesNumber, kiyX8_seesNumber, kyX8_seesNumber, ⟨_, rfl, rfl⟩, rfl, by decide +kernel, by decide +kernel, by decide +kernel⟩
/-- RoundedSumsModel.seesNumber -/
theorem v8_217 {E : Ev} {cc : ByteArray} {nL : Nat} {ret : Option FieldType} {R : Room} {cl sl : Nat} {Z : Zt} {pc : Nat} {L st : List Vv} {M : Mm} {N : Nn} {a b : Nat} {x0 : Int} {x1 : Int} {h : Nat} {P : Int → Mm → Nn → Prop} (hd : decode cc pc = .ok (.invokevirtual 217, 3)) (hct : Nat.ble (ctL st) 8 = true) (hR : Nat.ble (h + 1) R.frames = true ∧ Nat.ble (8 + (4 + 11) + 40 * h) R.locals = true) (hcl : Nat.ble cl R.cells = true ∧ Nat.ble sl R.slots = true) (hc : Ct E yX8_seesNumber cX8_seesNumber 4 ((some .boolean)) (rmH h) [vr (29, a, b), vi x0, vi x1] M N (qi P)) (k : ∀ r M1 N1, R32 r → P r M1 N1 → Go E RX8 cc nL ret R cl sl Z (pc + 3) L (vi r :: st) M1 N1) : Go E RX8 cc nL ret R cl sl Z (pc) L (vi x1 :: vi x0 :: vr (29, a, b) :: st) M N := go_callV (As := [vi x0, vi x1]) hd l8_217 rfl rfl rfl hct ⟨rfl, rfl⟩ ⟨Nat.le_of_ble_eq_true hR.1, Nat.le_of_ble_eq_true hR.2⟩ hc hcl (fun r M1 N1 h => by obtain ⟨z, rfl, h1, h⟩ := h; exact k z M1 N1 h1 h)
theorem kyX8_readOperand : Cond.code yX8_readOperand cX8_readOperand 4 ((some .boolean)) ∈ BIG := bg6 90 (rfl) rfl
theorem kiyX8_readOperand : Cond.initialized yX8_readOperand.cls ∈ BIG := bg1 9 (by decide +kernel) rfl
theorem knyX8_readOperand : Cond.instanceMethod yX8_readOperand ∈ BIG := bg6 89 (by decide +kernel) rfl
theorem ksyX8_readOperand : Cond.selects yX8_readOperand.cls yX8_readOperand yX8_readOperand ∈ BIG := bgp (q := (yX8_readOperand, 52)) (List.mem_of_getElem? (i := 66) (by decide +kernel)) rfl
theorem mw8_221 : Cond.methodLink RX8 221 yX8_readOperand ∈ BIG := bg6 87 (by decide +kernel) rfl
theorem l8_221 : LkV RX8 221 8 yX8_readOperand cX8_readOperand 4 ((some .boolean)) 1 := ⟨mw8_221, knyX8_readOperand, ksyX8_readOperand, kiyX8_readOperand, kyX8_readOperand, ⟨_, rfl, rfl⟩, rfl, by decide +kernel, by decide +kernel, by decide +kernel⟩
/-- RoundedSumsModel.readOperand -/
theorem v8_221 {E : Ev} {cc : ByteArray} {nL : Nat} {ret : Option FieldType} {R : Room} {cl sl : Nat} {Z : Zt} {pc : Nat} {L st : List Vv} {M : Mm} {N : Nn} {a b : Nat} {x0 : Int} {h : Nat} {P : Int → Mm → Nn → Prop} (hd : decode cc pc = .ok (.invokevirtual 221, 3)) (hct : Nat.ble (ctL st) 8 = true) (hR : Nat.ble (h + 1) R.frames = true ∧ Nat.ble (8 + (4 + 11) + 40 * h) R.locals = true) (hcl : Nat.ble cl R.cells = true ∧ Nat.ble sl R.slots = true) (hc : Ct E yX8_readOperand cX8_readOperand 4 ((some .boolean)) (rmH h) [vr (29, a, b), vi x0] M N (qi P)) (k : ∀ r M1 N1, R32 r → P r M1 N1 → Go E RX8 cc nL ret R cl sl Z (pc + 3) L (vi r :: st) M1 N1) : Go E RX8 cc nL ret R cl sl Z (pc) L (vi x0 :: vr (29, a, b) :: st) M N := go_callV (As := [vi x0]) hd l8_221 rfl rfl rfl hct ⟨rfl, rfl⟩ ⟨Nat.le_of_ble_eq_true hR.1, Nat.le_of_ble_eq_true hR.2⟩ hc hcl (fun r M1 N1 h => by obtain ⟨z, rfl, h1, h⟩ := h; exact k z M1 N1 h1 h)
theorem kyX8_takes : Cond.code yX8_takes cX8_takes 2 ((some .boolean)) ∈ BIG := bg6 82 (rfl) rfl
theorem kiyX8_takes : Cond.initialized yX8_takes.cls ∈ BIG := bg1 9 (by decide +kernel) rfl
theorem knyX8_takes : Cond.instanceMethod yX8_takes ∈ BIG := bg6 81 (by decide +kernel) rfl
theorem ksyX8_takes : Cond.selects yX8_takes.cls yX8_takes yX8_takes ∈ BIG := bgp (q := (yX8_takes, 52)) (List.mem_of_getElem? (i := 64) (by decide +kernel)) rfl
theorem mw8_224 : Cond.methodLink RX8 224 yX8_takes ∈ BIG := bg6 79 (by decide +kernel) rfl
theorem l8_224 : LkV RX8 224 8 yX8_takes cX8_takes 2 ((some .boolean)) 1 := ⟨mw8_224, knyX8_takes, ksyX8_takes, kiyX8_takes, kyX8_takes, ⟨_, rfl, rfl⟩, rfl, by decide +kernel, by decide +kernel, by decide +kernel⟩
/-- RoundedSumsModel.takes -/
theorem v8_224 {E : Ev} {cc : ByteArray} {nL : Nat} {ret : Option FieldType} {R : Room} {cl sl : Nat} {Z : Zt} {pc : Nat} {L st : List Vv} {M : Mm} {N : Nn} {a b : Nat} {x0 : Int} {h : Nat} {P : Int → Mm → Nn → Prop} (hd : decode cc pc = .ok (.invokevirtual 224, 3)) (hct : Nat.ble (ctL st) 8 = true) (hR : Nat.ble (h + 1) R.frames = true ∧ Nat.ble (8 + (2 + 11) + 40 * h) R.locals = true) (hcl : Nat.ble cl R.cells = true ∧ Nat.ble sl R.slots = true) (hc : Ct E yX8_takes cX8_takes 2 ((some .boolean)) (rmH h) [vr (29, a, b), vi x0] M N (qi P)) (k : ∀ r M1 N1, R32 r → P r M1 N1 → Go E RX8 cc nL ret R cl sl Z (pc + 3) L (vi r :: st) M1 N1) : Go E RX8 cc nL ret R cl sl Z (pc) L (vi x0 :: vr (29, a, b) :: st) M N := go_callV (As := [vi x0]) hd l8_224 rfl rfl rfl hct ⟨rfl, rfl⟩ ⟨Nat.le_of_ble_eq_true hR.1, Nat.le_of_ble_eq_true hR.2⟩ hc hcl (fun r M1 N1 h => by obtain ⟨z, rfl, h1, h⟩ := h; exact k z M1 N1 h1 h)
theorem kyX8_readSteps : Cond.code yX8_readSteps cX8_readSteps 2 ((some .boolean)) ∈ BIG := bg6 86 (rfl) rfl
theorem kiyX8_readSteps : Cond.initialized yX8_readSteps.cls ∈ BIG := bg1 9 (by decide +kernel) rfl
theorem knyX8_readSteps : Cond.instanceMethod yX8_readSteps ∈ BIG := bg6 85 (by decide +kernel) rfl
theorem ksyX8_readSteps : Cond.selects yX8_readSteps.cls yX8_readSteps yX8_readSteps ∈ BIG := bgp (q := (yX8_readSteps, 52)) (List.mem_of_getElem? (i := 65) (by decide +kernel)) rfl
theorem mw8_227 : Cond.methodLink RX8 227 yX8_readSteps ∈ BIG := bg6 83 (by decide +kernel) rfl
theorem l8_227 : LkV RX8 227 8 yX8_readSteps cX8_readSteps 2 ((some .boolean)) 0 := ⟨mw8_227, knyX8_readSteps, ksyX8_readSteps, kiyX8_readSteps, kyX8_readSteps, ⟨_, rfl, rfl⟩, rfl, by decide +kernel, by decide +kernel, by decide +kernel⟩
/-- RoundedSumsModel.readSteps -/
theorem v8_227 {E : Ev} {cc : ByteArray} {nL : Nat} {ret : Option FieldType} {R : Room} {cl sl : Nat} {Z : Zt} {pc : Nat} {L st : List Vv} {M : Mm} {N : Nn} {a b : Nat}  {h : Nat} {P : Int → Mm → Nn → Prop} (hd : decode cc pc = .ok (.invokevirtual 227, 3)) (hct : Nat.ble (ctL st) 8 = true) (hR : Nat.ble (h + 1) R.frames = true ∧ Nat.ble (8 + (2 + 11) + 40 * h) R.locals = true) (hcl : Nat.ble cl R.cells = true ∧ Nat.ble sl R.slots = true) (hc : Ct E yX8_readSteps cX8_readSteps 2 ((some .boolean)) (rmH h) [vr (29, a, b)] M N (qi P)) (k : ∀ r M1 N1, R32 r → P r M1 N1 → Go E RX8 cc nL ret R cl sl Z (pc + 3) L (vi r :: st) M1 N1) : Go E RX8 cc nL ret R cl sl Z (pc) L (vr (29, a, b) :: st) M N := go_callV (As := []) hd l8_227 rfl rfl rfl hct ⟨rfl, rfl⟩ ⟨Nat.le_of_ble_eq_true hR.1, Nat.le_of_ble_eq_true hR.2⟩ hc hcl (fun r M1 N1 h => by obtain ⟨z, rfl, h1, h⟩ := h; exact k z M1 N1 h1 h)
theorem kyX8_laysWeights : Cond.code yX8_laysWeights cX8_laysWeights 9 ((some .boolean)) ∈ BIG := bg6 95 (rfl) rfl
theorem kiyX8_laysWeights : Cond.initialized yX8_laysWeights.cls ∈ BIG := bg1 9 (by decide +kernel) rfl
theorem knyX8_laysWeights : Cond.instanceMethod yX8_laysWeights ∈ BIG := bg6 94 (by decide +kernel) rfl
theorem ksyX8_laysWeights : Cond.selects yX8_laysWeights.cls yX8_laysWeights yX8_laysWeights ∈ BIG := bgp (q := (yX8_laysWeights, 52)) (List.mem_of_getElem? (i := 67) (by decide +kernel)) rfl
theorem mw8_232 : Cond.methodLink RX8 232 yX8_laysWeights ∈ BIG := bg6 92 (by decide +kernel) rfl
theorem l8_232 : LkV RX8 232 8 yX8_laysWeights cX8_laysWeights 9 ((some .boolean)) 2 := ⟨mw8_232, knyX8_laysWeights, ksyX8_laysWeights, kiyX8_laysWeights, kyX8_laysWeights, ⟨_, rfl, rfl⟩, rfl, by decide +kernel, by decide +kernel, by decide +kernel⟩
/-- RoundedSumsModel.laysWeights -/
theorem v8_232 {E : Ev} {cc : ByteArray} {nL : Nat} {ret : Option FieldType} {R : Room} {cl sl : Nat} {Z : Zt} {pc : Nat} {L st : List Vv} {M : Mm} {N : Nn} {a b : Nat} {x0 : Int} {x1 : Int} {h : Nat} {P : Int → Mm → Nn → Prop} (hd : decode cc pc = .ok (.invokevirtual 232, 3)) (hct : Nat.ble (ctL st) 8 = true) (hR : Nat.ble (h + 1) R.frames = true ∧ Nat.ble (8 + (9 + 11) + 40 * h) R.locals = true) (hcl : Nat.ble cl R.cells = true ∧ Nat.ble sl R.slots = true) (hc : Ct E yX8_laysWeights cX8_laysWeights 9 ((some .boolean)) (rmH h) [vr (29, a, b), vi x0, vi x1] M N (qi P)) (k : ∀ r M1 N1, R32 r → P r M1 N1 → Go E RX8 cc nL ret R cl sl Z (pc + 3) L (vi r :: st) M1 N1) : Go E RX8 cc nL ret R cl sl Z (pc) L (vi x1 :: vi x0 :: vr (29, a, b) :: st) M N := go_callV (As := [vi x0, vi x1]) hd l8_232 rfl rfl rfl hct ⟨rfl, rfl⟩ ⟨Nat.le_of_ble_eq_true hR.1, Nat.le_of_ble_eq_true hR.2⟩ hc hcl (fun r M1 N1 h => by obtain ⟨z, rfl, h1, h⟩ := h; exact k z M1 N1 h1 h)
theorem kyX8_readInput : Cond.code yX8_readInput cX8_readInput 3 ((some .boolean)) ∈ BIG := bg6 39 (rfl) rfl
theorem kiyX8_readInput : Cond.initialized yX8_readInput.cls ∈ BIG := bg1 9 (by decide +kernel) rfl
theorem knyX8_readInput : Cond.instanceMethod yX8_readInput ∈ BIG := bg6 38 (by decide +kernel) rfl
theorem ksyX8_readInput : Cond.selects yX8_readInput.cls yX8_readInput yX8_readInput ∈ BIG := bgp (q := (yX8_readInput, 52)) (List.mem_of_getElem? (i := 55) (by decide +kernel)) rfl
theorem mw8_235 : Cond.methodLink RX8 235 yX8_readInput ∈ BIG := bg6 36 (by decide +kernel) rfl
theorem l8_235 : LkV RX8 235 8 yX8_readInput cX8_readInput 3 ((some .boolean)) 0 := ⟨mw8_235, knyX8_readInput, ksyX8_readInput, kiyX8_readInput, kyX8_readInput, ⟨_, rfl, rfl⟩, rfl, by decide +kernel, by decide +kernel, by decide +kernel⟩
/-- RoundedSumsModel.readInput -/
theorem v8_235 {E : Ev} {cc : ByteArray} {nL : Nat} {ret : Option FieldType} {R : Room} {cl sl : Nat} {Z : Zt} {pc : Nat} {L st : List Vv} {M : Mm} {N : Nn} {a b : Nat}  {h : Nat} {P : Int → Mm → Nn → Prop} (hd : decode cc pc = .ok (.invokevirtual 235, 3)) (hct : Nat.ble (ctL st) 8 = true) (hR : Nat.ble (h + 1) R.frames = true ∧ Nat.ble (8 + (3 + 11) + 40 * h) R.locals = true) (hcl : Nat.ble cl R.cells = true ∧ Nat.ble sl R.slots = true) (hc : Ct E yX8_readInput cX8_readInput 3 ((some .boolean)) (rmH h) [vr (29, a, b)] M N (qi P)) (k : ∀ r M1 N1, R32 r → P r M1 N1 → Go E RX8 cc nL ret R cl sl Z (pc + 3) L (vi r :: st) M1 N1) : Go E RX8 cc nL ret R cl sl Z (pc) L (vr (29, a, b) :: st) M N := go_callV (As := []) hd l8_235 rfl rfl rfl hct ⟨rfl, rfl⟩ ⟨Nat.le_of_ble_eq_true hR.1, Nat.le_of_ble_eq_true hR.2⟩ hc hcl (fun r M1 N1 h => by obtain ⟨z, rfl, h1, h⟩ := h; exact k z M1 N1 h1 h)
theorem kyX8_readLet : Cond.code yX8_readLet cX8_readLet 2 ((some .boolean)) ∈ BIG := bg6 78 (rfl) rfl
theorem kiyX8_readLet : Cond.initialized yX8_readLet.cls ∈ BIG := bg1 9 (by decide +kernel) rfl
theorem knyX8_readLet : Cond.instanceMethod yX8_readLet ∈ BIG := bg6 77 (by decide +kernel) rfl
theorem ksyX8_readLet : Cond.selects yX8_readLet.cls yX8_readLet yX8_readLet ∈ BIG := bgp (q := (yX8_readLet, 52)) (List.mem_of_getElem? (i := 63) (by decide +kernel)) rfl
theorem mw8_238 : Cond.methodLink RX8 238 yX8_readLet ∈ BIG := bg6 75 (by decide +kernel) rfl
theorem l8_238 : LkV RX8 238 8 yX8_readLet cX8_readLet 2 ((some .boolean)) 0 := ⟨mw8_238, knyX8_readLet, ksyX8_readLet, kiyX8_readLet, kyX8_readLet, ⟨_, rfl, rfl⟩, rfl, by decide +kernel, by decide +kernel, by decide +kernel⟩
/-- RoundedSumsModel.readLet -/
theorem v8_238 {E : Ev} {cc : ByteArray} {nL : Nat} {ret : Option FieldType} {R : Room} {cl sl : Nat} {Z : Zt} {pc : Nat} {L st : List Vv} {M : Mm} {N : Nn} {a b : Nat}  {h : Nat} {P : Int → Mm → Nn → Prop} (hd : decode cc pc = .ok (.invokevirtual 238, 3)) (hct : Nat.ble (ctL st) 8 = true) (hR : Nat.ble (h + 1) R.frames = true ∧ Nat.ble (8 + (2 + 11) + 40 * h) R.locals = true) (hcl : Nat.ble cl R.cells = true ∧ Nat.ble sl R.slots = true) (hc : Ct E yX8_readLet cX8_readLet 2 ((some .boolean)) (rmH h) [vr (29, a, b)] M N (qi P)) (k : ∀ r M1 N1, R32 r → P r M1 N1 → Go E RX8 cc nL ret R cl sl Z (pc + 3) L (vi r :: st) M1 N1) : Go E RX8 cc nL ret R cl sl Z (pc) L (vr (29, a, b) :: st) M N := go_callV (As := []) hd l8_238 rfl rfl rfl hct ⟨rfl, rfl⟩ ⟨Nat.le_of_ble_eq_true hR.1, Nat.le_of_ble_eq_true hR.2⟩ hc hcl (fun r M1 N1 h => by obtain ⟨z, rfl, h1, h⟩ := h; exact k z M1 N1 h1 h)
theorem kyX8_readLine : Cond.code yX8_readLine cX8_readLine 1 ((some .boolean)) ∈ BIG := bg6 28 (rfl) rfl
theorem kiyX8_readLine : Cond.initialized yX8_readLine.cls ∈ BIG := bg1 9 (by decide +kernel) rfl
theorem knyX8_readLine : Cond.instanceMethod yX8_readLine ∈ BIG := bg6 27 (by decide +kernel) rfl
theorem ksyX8_readLine : Cond.selects yX8_readLine.cls yX8_readLine yX8_readLine ∈ BIG := bgp (q := (yX8_readLine, 52)) (List.mem_of_getElem? (i := 53) (by decide +kernel)) rfl
theorem mw8_241 : Cond.methodLink RX8 241 yX8_readLine ∈ BIG := bg6 25 (by decide +kernel) rfl
theorem l8_241 : LkV RX8 241 8 yX8_readLine cX8_readLine 1 ((some .boolean)) 0 := ⟨mw8_241, knyX8_readLine, ksyX8_readLine, kiyX8_readLine, kyX8_readLine, ⟨_, rfl, rfl⟩, rfl, by decide +kernel, by decide +kernel, by decide +kernel⟩
/-- RoundedSumsModel.readLine -/
theorem v8_241 {E : Ev} {cc : ByteArray} {nL : Nat} {ret : Option FieldType} {R : Room} {cl sl : Nat} {Z : Zt} {pc : Nat} {L st : List Vv} {M : Mm} {N : Nn} {a b : Nat}  {h : Nat} {P : Int → Mm → Nn → Prop} (hd : decode cc pc = .ok (.invokevirtual 241, 3)) (hct : Nat.ble (ctL st) 8 = true) (hR : Nat.ble (h + 1) R.frames = true ∧ Nat.ble (8 + (1 + 11) + 40 * h) R.locals = true) (hcl : Nat.ble cl R.cells = true ∧ Nat.ble sl R.slots = true) (hc : Ct E yX8_readLine cX8_readLine 1 ((some .boolean)) (rmH h) [vr (29, a, b)] M N (qi P)) (k : ∀ r M1 N1, R32 r → P r M1 N1 → Go E RX8 cc nL ret R cl sl Z (pc + 3) L (vi r :: st) M1 N1) : Go E RX8 cc nL ret R cl sl Z (pc) L (vr (29, a, b) :: st) M N := go_callV (As := []) hd l8_241 rfl rfl rfl hct ⟨rfl, rfl⟩ ⟨Nat.le_of_ble_eq_true hR.1, Nat.le_of_ble_eq_true hR.2⟩ hc hcl (fun r M1 N1 h => by obtain ⟨z, rfl, h1, h⟩ := h; exact k z M1 N1 h1 h)
theorem kyX8_sizeOf : Cond.code yX8_sizeOf cX8_sizeOf 2 ((some .long)) ∈ BIG := bg6 101 (rfl) rfl
theorem kiyX8_sizeOf : Cond.initialized yX8_sizeOf.cls ∈ BIG := bg1 9 (by decide +kernel) rfl
theorem ktyX8_sizeOf : Cond.static yX8_sizeOf ∈ BIG := bg6 100 (by decide +kernel) rfl
theorem mw8_244 : Cond.methodLink RX8 244 yX8_sizeOf ∈ BIG := bg6 99 (by decide +kernel) rfl
theorem l8_244 : LkS RX8 244 yX8_sizeOf cX8_sizeOf 2 ((some .long)) 1 := ⟨mw8_244, ktyX8_sizeOf, kiyX8_sizeOf, kyX8_sizeOf, by decide +kernel, by decide +kernel, by decide +kernel⟩
/-- RoundedSumsModel.sizeOf -/
theorem v8_244 {E : Ev} {cc : ByteArray} {nL : Nat} {ret : Option FieldType} {R : Room} {cl sl : Nat} {Z : Zt} {pc : Nat} {L st : List Vv} {M : Mm} {N : Nn} {x0 : Int} {h : Nat} {P : Int → Mm → Nn → Prop} (hd : decode cc pc = .ok (.invokestatic 244, 3)) (hct : Nat.ble (ctL st) 8 = true) (hR : Nat.ble (h + 1) R.frames = true ∧ Nat.ble (8 + (2 + 11) + 40 * h) R.locals = true) (hcl : Nat.ble cl R.cells = true ∧ Nat.ble sl R.slots = true) (hc : Ct E yX8_sizeOf cX8_sizeOf 2 ((some .long)) (rmH h) [vl x0] M N (ql P)) (k : ∀ r M1 N1, R64 r → P r M1 N1 → Go E RX8 cc nL ret R cl sl Z (pc + 3) L (vl r :: st) M1 N1) : Go E RX8 cc nL ret R cl sl Z (pc) L (vl x0 :: st) M N := go_callS (As := [vl x0]) hd l8_244 rfl rfl hct ⟨rfl, rfl⟩ ⟨Nat.le_of_ble_eq_true hR.1, Nat.le_of_ble_eq_true hR.2⟩ hc hcl (fun r M1 N1 h => by obtain ⟨z, rfl, h1, h⟩ := h; exact k z M1 N1 h1 h)
theorem kyX8_isInput : Cond.code yX8_isInput cX8_isInput 1 ((some .boolean)) ∈ BIG := bg6 98 (rfl) rfl
theorem kiyX8_isInput : Cond.initialized yX8_isInput.cls ∈ BIG := bg1 9 (by decide +kernel) rfl
theorem ktyX8_isInput : Cond.static yX8_isInput ∈ BIG := bg6 97 (by decide +kernel) rfl
theorem mw8_248 : Cond.methodLink RX8 248 yX8_isInput ∈ BIG := bg6 96 (by decide +kernel) rfl
theorem l8_248 : LkS RX8 248 yX8_isInput cX8_isInput 1 ((some .boolean)) 1 := ⟨mw8_248, ktyX8_isInput, kiyX8_isInput, kyX8_isInput, by decide +kernel, by decide +kernel, by decide +kernel⟩
/-- RoundedSumsModel.isInput -/
theorem v8_248 {E : Ev} {cc : ByteArray} {nL : Nat} {ret : Option FieldType} {R : Room} {cl sl : Nat} {Z : Zt} {pc : Nat} {L st : List Vv} {M : Mm} {N : Nn} {x0 : Int} {h : Nat} {P : Int → Mm → Nn → Prop} (hd : decode cc pc = .ok (.invokestatic 248, 3)) (hct : Nat.ble (ctL st) 8 = true) (hR : Nat.ble (h + 1) R.frames = true ∧ Nat.ble (8 + (1 + 11) + 40 * h) R.locals = true) (hcl : Nat.ble cl R.cells = true ∧ Nat.ble sl R.slots = true) (hc : Ct E yX8_isInput cX8_isInput 1 ((some .boolean)) (rmH h) [vi x0] M N (qi P)) (k : ∀ r M1 N1, R32 r → P r M1 N1 → Go E RX8 cc nL ret R cl sl Z (pc + 3) L (vi r :: st) M1 N1) : Go E RX8 cc nL ret R cl sl Z (pc) L (vi x0 :: st) M N := go_callS (As := [vi x0]) hd l8_248 rfl rfl hct ⟨rfl, rfl⟩ ⟨Nat.le_of_ble_eq_true hR.1, Nat.le_of_ble_eq_true hR.2⟩ hc hcl (fun r M1 N1 h => by obtain ⟨z, rfl, h1, h⟩ := h; exact k z M1 N1 h1 h)
theorem kyX8_weightOf : Cond.code yX8_weightOf cX8_weightOf 5 ((some .long)) ∈ BIG := bg6 105 (rfl) rfl
theorem kiyX8_weightOf : Cond.initialized yX8_weightOf.cls ∈ BIG := bg1 9 (by decide +kernel) rfl
theorem knyX8_weightOf : Cond.instanceMethod yX8_weightOf ∈ BIG := bg6 104 (by decide +kernel) rfl
theorem ksyX8_weightOf : Cond.selects yX8_weightOf.cls yX8_weightOf yX8_weightOf ∈ BIG := bgp (q := (yX8_weightOf, 52)) (List.mem_of_getElem? (i := 68) (by decide +kernel)) rfl
theorem mw8_251 : Cond.methodLink RX8 251 yX8_weightOf ∈ BIG := bg6 102 (by decide +kernel) rfl
theorem l8_251 : LkV RX8 251 8 yX8_weightOf cX8_weightOf 5 ((some .long)) 3 := ⟨mw8_251, knyX8_weightOf, ksyX8_weightOf, kiyX8_weightOf, kyX8_weightOf, ⟨_, rfl, rfl⟩, rfl, by decide +kernel, by decide +kernel, by decide +kernel⟩
/-- RoundedSumsModel.weightOf -/
theorem v8_251 {E : Ev} {cc : ByteArray} {nL : Nat} {ret : Option FieldType} {R : Room} {cl sl : Nat} {Z : Zt} {pc : Nat} {L st : List Vv} {M : Mm} {N : Nn} {a b : Nat} {x0 : Int} {x1 : Int} {x2 : Int} {h : Nat} {P : Int → Mm → Nn → Prop} (hd : decode cc pc = .ok (.invokevirtual 251, 3)) (hct : Nat.ble (ctL st) 8 = true) (hR : Nat.ble (h + 1) R.frames = true ∧ Nat.ble (8 + (5 + 11) + 40 * h) R.locals = true) (hcl : Nat.ble cl R.cells = true ∧ Nat.ble sl R.slots = true) (hc : Ct E yX8_weightOf cX8_weightOf 5 ((some .long)) (rmH h) [vr (29, a, b), vi x0, vi x1, vi x2] M N (ql P)) (k : ∀ r M1 N1, R64 r → P r M1 N1 → Go E RX8 cc nL ret R cl sl Z (pc + 3) L (vl r :: st) M1 N1) : Go E RX8 cc nL ret R cl sl Z (pc) L (vi x2 :: vi x1 :: vi x0 :: vr (29, a, b) :: st) M N := go_callV (As := [vi x0, vi x1, vi x2]) hd l8_251 rfl rfl rfl hct ⟨rfl, rfl⟩ ⟨Nat.le_of_ble_eq_true hR.1, Nat.le_of_ble_eq_true hR.2⟩ hc hcl (fun r M1 N1 h => by obtain ⟨z, rfl, h1, h⟩ := h; exact k z M1 N1 h1 h)
theorem kyX8_fineOf : Cond.code yX8_fineOf cX8_fineOf 6 ((some .int)) ∈ BIG := bg6 147 (rfl) rfl
theorem kiyX8_fineOf : Cond.initialized yX8_fineOf.cls ∈ BIG := bg1 9 (by decide +kernel) rfl
theorem knyX8_fineOf : Cond.instanceMethod yX8_fineOf ∈ BIG := bg6 146 (by decide +kernel) rfl
theorem ksyX8_fineOf : Cond.selects yX8_fineOf.cls yX8_fineOf yX8_fineOf ∈ BIG := bgp (q := (yX8_fineOf, 52)) (List.mem_of_getElem? (i := 74) (by decide +kernel)) rfl
theorem mw8_262 : Cond.methodLink RX8 262 yX8_fineOf ∈ BIG := bg6 144 (by decide +kernel) rfl
theorem l8_262 : LkV RX8 262 8 yX8_fineOf cX8_fineOf 6 ((some .int)) 2 := ⟨mw8_262, knyX8_fineOf, ksyX8_fineOf, kiyX8_fineOf, kyX8_fineOf, ⟨_, rfl, rfl⟩, rfl, by decide +kernel, by decide +kernel, by decide +kernel⟩
/-- RoundedSumsModel.fineOf -/
theorem v8_262 {E : Ev} {cc : ByteArray} {nL : Nat} {ret : Option FieldType} {R : Room} {cl sl : Nat} {Z : Zt} {pc : Nat} {L st : List Vv} {M : Mm} {N : Nn} {a b : Nat} {x0 : Int} {x1 : Int} {h : Nat} {P : Int → Mm → Nn → Prop} (hd : decode cc pc = .ok (.invokevirtual 262, 3)) (hct : Nat.ble (ctL st) 8 = true) (hR : Nat.ble (h + 1) R.frames = true ∧ Nat.ble (8 + (6 + 11) + 40 * h) R.locals = true) (hcl : Nat.ble cl R.cells = true ∧ Nat.ble sl R.slots = true) (hc : Ct E yX8_fineOf cX8_fineOf 6 ((some .int)) (rmH h) [vr (29, a, b), vi x0, vi x1] M N (qi P)) (k : ∀ r M1 N1, R32 r → P r M1 N1 → Go E RX8 cc nL ret R cl sl Z (pc + 3) L (vi r :: st) M1 N1) : Go E RX8 cc nL ret R cl sl Z (pc) L (vi x1 :: vi x0 :: vr (29, a, b) :: st) M N := go_callV (As := [vi x0, vi x1]) hd l8_262 rfl rfl rfl hct ⟨rfl, rfl⟩ ⟨Nat.le_of_ble_eq_true hR.1, Nat.le_of_ble_eq_true hR.2⟩ hc hcl (fun r M1 N1 h => by obtain ⟨z, rfl, h1, h⟩ := h; exact k z M1 N1 h1 h)
theorem kyX8_lesser : Cond.code yX8_lesser cX8_lesser 2 ((some .int)) ∈ BIG := bg6 150 (rfl) rfl
theorem kiyX8_lesser : Cond.initialized yX8_lesser.cls ∈ BIG := bg1 9 (by decide +kernel) rfl
theorem ktyX8_lesser : Cond.static yX8_lesser ∈ BIG := bg6 149 (by decide +kernel) rfl
theorem mw8_266 : Cond.methodLink RX8 266 yX8_lesser ∈ BIG := bg6 148 (by decide +kernel) rfl
theorem l8_266 : LkS RX8 266 yX8_lesser cX8_lesser 2 ((some .int)) 2 := ⟨mw8_266, ktyX8_lesser, kiyX8_lesser, kyX8_lesser, by decide +kernel, by decide +kernel, by decide +kernel⟩
/-- RoundedSumsModel.lesser -/
theorem v8_266 {E : Ev} {cc : ByteArray} {nL : Nat} {ret : Option FieldType} {R : Room} {cl sl : Nat} {Z : Zt} {pc : Nat} {L st : List Vv} {M : Mm} {N : Nn} {x0 : Int} {x1 : Int} {h : Nat} {P : Int → Mm → Nn → Prop} (hd : decode cc pc = .ok (.invokestatic 266, 3)) (hct : Nat.ble (ctL st) 8 = true) (hR : Nat.ble (h + 1) R.frames = true ∧ Nat.ble (8 + (2 + 11) + 40 * h) R.locals = true) (hcl : Nat.ble cl R.cells = true ∧ Nat.ble sl R.slots = true) (hc : Ct E yX8_lesser cX8_lesser 2 ((some .int)) (rmH h) [vi x0, vi x1] M N (qi P)) (k : ∀ r M1 N1, R32 r → P r M1 N1 → Go E RX8 cc nL ret R cl sl Z (pc + 3) L (vi r :: st) M1 N1) : Go E RX8 cc nL ret R cl sl Z (pc) L (vi x1 :: vi x0 :: st) M N := go_callS (As := [vi x0, vi x1]) hd l8_266 rfl rfl hct ⟨rfl, rfl⟩ ⟨Nat.le_of_ble_eq_true hR.1, Nat.le_of_ble_eq_true hR.2⟩ hc hcl (fun r M1 N1 h => by obtain ⟨z, rfl, h1, h⟩ := h; exact k z M1 N1 h1 h)
theorem kyX8_isRefused : Cond.code yX8_isRefused cX8_isRefused 2 ((some .boolean)) ∈ BIG := bg6 8 (rfl) rfl
theorem kiyX8_isRefused : Cond.initialized yX8_isRefused.cls ∈ BIG := bg1 9 (by decide +kernel) rfl
theorem knyX8_isRefused : Cond.instanceMethod yX8_isRefused ∈ BIG := bg6 7 (by decide +kernel) rfl
theorem ksyX8_isRefused : Cond.selects yX8_isRefused.cls yX8_isRefused yX8_isRefused ∈ BIG := bgp (q := (yX8_isRefused, 52)) (List.mem_of_getElem? (i := 49) (by decide +kernel)) rfl
theorem mw8_269 : Cond.methodLink RX8 269 yX8_isRefused ∈ BIG := bg6 5 (by decide +kernel) rfl
theorem l8_269 : LkV RX8 269 8 yX8_isRefused cX8_isRefused 2 ((some .boolean)) 1 := ⟨mw8_269, knyX8_isRefused, ksyX8_isRefused, kiyX8_isRefused, kyX8_isRefused, ⟨_, rfl, rfl⟩, rfl, by decide +kernel, by decide +kernel, by decide +kernel⟩
/-- RoundedSumsModel.isRefused -/
theorem v8_269 {E : Ev} {cc : ByteArray} {nL : Nat} {ret : Option FieldType} {R : Room} {cl sl : Nat} {Z : Zt} {pc : Nat} {L st : List Vv} {M : Mm} {N : Nn} {a b : Nat} {x0 : Int} {h : Nat} {P : Int → Mm → Nn → Prop} (hd : decode cc pc = .ok (.invokevirtual 269, 3)) (hct : Nat.ble (ctL st) 8 = true) (hR : Nat.ble (h + 1) R.frames = true ∧ Nat.ble (8 + (2 + 11) + 40 * h) R.locals = true) (hcl : Nat.ble cl R.cells = true ∧ Nat.ble sl R.slots = true) (hc : Ct E yX8_isRefused cX8_isRefused 2 ((some .boolean)) (rmH h) [vr (29, a, b), vi x0] M N (qi P)) (k : ∀ r M1 N1, R32 r → P r M1 N1 → Go E RX8 cc nL ret R cl sl Z (pc + 3) L (vi r :: st) M1 N1) : Go E RX8 cc nL ret R cl sl Z (pc) L (vi x0 :: vr (29, a, b) :: st) M N := go_callV (As := [vi x0]) hd l8_269 rfl rfl rfl hct ⟨rfl, rfl⟩ ⟨Nat.le_of_ble_eq_true hR.1, Nat.le_of_ble_eq_true hR.2⟩ hc hcl (fun r M1 N1 h => by obtain ⟨z, rfl, h1, h⟩ := h; exact k z M1 N1 h1 h)
theorem kyX8_readAll : Cond.code yX8_readAll cX8_readAll 2 ((some .boolean)) ∈ BIG := bg6 12 (rfl) rfl
theorem kiyX8_readAll : Cond.initialized yX8_readAll.cls ∈ BIG := bg1 9 (by decide +kernel) rfl
theorem knyX8_readAll : Cond.instanceMethod yX8_readAll ∈ BIG := bg6 11 (by decide +kernel) rfl
theorem ksyX8_readAll : Cond.selects yX8_readAll.cls yX8_readAll yX8_readAll ∈ BIG := bgp (q := (yX8_readAll, 52)) (List.mem_of_getElem? (i := 50) (by decide +kernel)) rfl
theorem mw8_275 : Cond.methodLink RX8 275 yX8_readAll ∈ BIG := bg6 9 (by decide +kernel) rfl
theorem l8_275 : LkV RX8 275 8 yX8_readAll cX8_readAll 2 ((some .boolean)) 1 := ⟨mw8_275, knyX8_readAll, ksyX8_readAll, kiyX8_readAll, kyX8_readAll, ⟨_, rfl, rfl⟩, rfl, by decide +kernel, by decide +kernel, by decide +kernel⟩
/-- RoundedSumsModel.readAll -/
theorem v8_275 {E : Ev} {cc : ByteArray} {nL : Nat} {ret : Option FieldType} {R : Room} {cl sl : Nat} {Z : Zt} {pc : Nat} {L st : List Vv} {M : Mm} {N : Nn} {a b : Nat} {x0 : Int} {h : Nat} {P : Int → Mm → Nn → Prop} (hd : decode cc pc = .ok (.invokevirtual 275, 3)) (hct : Nat.ble (ctL st) 8 = true) (hR : Nat.ble (h + 1) R.frames = true ∧ Nat.ble (8 + (2 + 11) + 40 * h) R.locals = true) (hcl : Nat.ble cl R.cells = true ∧ Nat.ble sl R.slots = true) (hc : Ct E yX8_readAll cX8_readAll 2 ((some .boolean)) (rmH h) [vr (29, a, b), vi x0] M N (qi P)) (k : ∀ r M1 N1, R32 r → P r M1 N1 → Go E RX8 cc nL ret R cl sl Z (pc + 3) L (vi r :: st) M1 N1) : Go E RX8 cc nL ret R cl sl Z (pc) L (vi x0 :: vr (29, a, b) :: st) M N := go_callV (As := [vi x0]) hd l8_275 rfl rfl rfl hct ⟨rfl, rfl⟩ ⟨Nat.le_of_ble_eq_true hR.1, Nat.le_of_ble_eq_true hR.2⟩ hc hcl (fun r M1 N1 h => by obtain ⟨z, rfl, h1, h⟩ := h; exact k z M1 N1 h1 h)
theorem kyX8_no : Cond.code yX8_no cX8_no 2 ((some .int)) ∈ BIG := bg6 111 (rfl) rfl
theorem kiyX8_no : Cond.initialized yX8_no.cls ∈ BIG := bg1 9 (by decide +kernel) rfl
theorem knyX8_no : Cond.instanceMethod yX8_no ∈ BIG := bg6 110 (by decide +kernel) rfl
theorem ksyX8_no : Cond.selects yX8_no.cls yX8_no yX8_no ∈ BIG := bgp (q := (yX8_no, 52)) (List.mem_of_getElem? (i := 69) (by decide +kernel)) rfl
theorem mw8_278 : Cond.methodLink RX8 278 yX8_no ∈ BIG := bg6 108 (by decide +kernel) rfl
theorem l8_278 : LkV RX8 278 8 yX8_no cX8_no 2 ((some .int)) 1 := ⟨mw8_278, knyX8_no, ksyX8_no, kiyX8_no, kyX8_no, ⟨_, rfl, rfl⟩, rfl, by decide +kernel, by decide +kernel, by decide +kernel⟩
/-- RoundedSumsModel.no -/
theorem v8_278 {E : Ev} {cc : ByteArray} {nL : Nat} {ret : Option FieldType} {R : Room} {cl sl : Nat} {Z : Zt} {pc : Nat} {L st : List Vv} {M : Mm} {N : Nn} {a b : Nat} {x0 : Int} {h : Nat} {P : Int → Mm → Nn → Prop} (hd : decode cc pc = .ok (.invokevirtual 278, 3)) (hct : Nat.ble (ctL st) 8 = true) (hR : Nat.ble (h + 1) R.frames = true ∧ Nat.ble (8 + (2 + 11) + 40 * h) R.locals = true) (hcl : Nat.ble cl R.cells = true ∧ Nat.ble sl R.slots = true) (hc : Ct E yX8_no cX8_no 2 ((some .int)) (rmH h) [vr (29, a, b), vi x0] M N (qi P)) (k : ∀ r M1 N1, R32 r → P r M1 N1 → Go E RX8 cc nL ret R cl sl Z (pc + 3) L (vi r :: st) M1 N1) : Go E RX8 cc nL ret R cl sl Z (pc) L (vi x0 :: vr (29, a, b) :: st) M N := go_callV (As := [vi x0]) hd l8_278 rfl rfl rfl hct ⟨rfl, rfl⟩ ⟨Nat.le_of_ble_eq_true hR.1, Nat.le_of_ble_eq_true hR.2⟩ hc hcl (fun r M1 N1 h => by obtain ⟨z, rfl, h1, h⟩ := h; exact k z M1 N1 h1 h)
theorem kyX8_isVariable : Cond.code yX8_isVariable cX8_isVariable 2 ((some .boolean)) ∈ BIG := bg6 232 (rfl) rfl
theorem kiyX8_isVariable : Cond.initialized yX8_isVariable.cls ∈ BIG := bg1 9 (by decide +kernel) rfl
theorem knyX8_isVariable : Cond.instanceMethod yX8_isVariable ∈ BIG := bg6 231 (by decide +kernel) rfl
theorem ksyX8_isVariable : Cond.selects yX8_isVariable.cls yX8_isVariable yX8_isVariable ∈ BIG := bgp (q := (yX8_isVariable, 52)) (List.mem_of_getElem? (i := 90) (by decide +kernel)) rfl
theorem mw8_285 : Cond.methodLink RX8 285 yX8_isVariable ∈ BIG := bg6 229 (by decide +kernel) rfl
theorem l8_285 : LkV RX8 285 8 yX8_isVariable cX8_isVariable 2 ((some .boolean)) 1 := ⟨mw8_285, knyX8_isVariable, ksyX8_isVariable, kiyX8_isVariable, kyX8_isVariable, ⟨_, rfl, rfl⟩, rfl, by decide +kernel, by decide +kernel, by decide +kernel⟩
/-- RoundedSumsModel.isVariable -/
theorem v8_285 {E : Ev} {cc : ByteArray} {nL : Nat} {ret : Option FieldType} {R : Room} {cl sl : Nat} {Z : Zt} {pc : Nat} {L st : List Vv} {M : Mm} {N : Nn} {a b : Nat} {x0 : Int} {h : Nat} {P : Int → Mm → Nn → Prop} (hd : decode cc pc = .ok (.invokevirtual 285, 3)) (hct : Nat.ble (ctL st) 8 = true) (hR : Nat.ble (h + 1) R.frames = true ∧ Nat.ble (8 + (2 + 11) + 40 * h) R.locals = true) (hcl : Nat.ble cl R.cells = true ∧ Nat.ble sl R.slots = true) (hc : Ct E yX8_isVariable cX8_isVariable 2 ((some .boolean)) (rmH h) [vr (29, a, b), vi x0] M N (qi P)) (k : ∀ r M1 N1, R32 r → P r M1 N1 → Go E RX8 cc nL ret R cl sl Z (pc + 3) L (vi r :: st) M1 N1) : Go E RX8 cc nL ret R cl sl Z (pc) L (vi x0 :: vr (29, a, b) :: st) M N := go_callV (As := [vi x0]) hd l8_285 rfl rfl rfl hct ⟨rfl, rfl⟩ ⟨Nat.le_of_ble_eq_true hR.1, Nat.le_of_ble_eq_true hR.2⟩ hc hcl (fun r M1 N1 h => by obtain ⟨z, rfl, h1, h⟩ := h; exact k z M1 N1 h1 h)
theorem kyX8_unless : Cond.code yX8_unless cX8_unless 1 ((some .int)) ∈ BIG := bg6 127 (rfl) rfl
theorem kiyX8_unless : Cond.initialized yX8_unless.cls ∈ BIG := bg1 9 (by decide +kernel) rfl
theorem ktyX8_unless : Cond.static yX8_unless ∈ BIG := bg6 126 (by decide +kernel) rfl
theorem mw8_292 : Cond.methodLink RX8 292 yX8_unless ∈ BIG := bg6 125 (by decide +kernel) rfl
theorem l8_292 : LkS RX8 292 yX8_unless cX8_unless 1 ((some .int)) 1 := ⟨mw8_292, ktyX8_unless, kiyX8_unless, kyX8_unless, by decide +kernel, by decide +kernel, by decide +kernel⟩
/-- RoundedSumsModel.unless -/
theorem v8_292 {E : Ev} {cc : ByteArray} {nL : Nat} {ret : Option FieldType} {R : Room} {cl sl : Nat} {Z : Zt} {pc : Nat} {L st : List Vv} {M : Mm} {N : Nn} {x0 : Int} {h : Nat} {P : Int → Mm → Nn → Prop} (hd : decode cc pc = .ok (.invokestatic 292, 3)) (hct : Nat.ble (ctL st) 8 = true) (hR : Nat.ble (h + 1) R.frames = true ∧ Nat.ble (8 + (1 + 11) + 40 * h) R.locals = true) (hcl : Nat.ble cl R.cells = true ∧ Nat.ble sl R.slots = true) (hc : Ct E yX8_unless cX8_unless 1 ((some .int)) (rmH h) [vi x0] M N (qi P)) (k : ∀ r M1 N1, R32 r → P r M1 N1 → Go E RX8 cc nL ret R cl sl Z (pc + 3) L (vi r :: st) M1 N1) : Go E RX8 cc nL ret R cl sl Z (pc) L (vi x0 :: st) M N := go_callS (As := [vi x0]) hd l8_292 rfl rfl hct ⟨rfl, rfl⟩ ⟨Nat.le_of_ble_eq_true hR.1, Nat.le_of_ble_eq_true hR.2⟩ hc hcl (fun r M1 N1 h => by obtain ⟨z, rfl, h1, h⟩ := h; exact k z M1 N1 h1 h)
theorem kyX8_inputs : Cond.code yX8_inputs cX8_inputs 3 ((some .int)) ∈ BIG := bg6 131 (rfl) rfl
theorem kiyX8_inputs : Cond.initialized yX8_inputs.cls ∈ BIG := bg1 9 (by decide +kernel) rfl
theorem knyX8_inputs : Cond.instanceMethod yX8_inputs ∈ BIG := bg6 130 (by decide +kernel) rfl
theorem ksyX8_inputs : Cond.selects yX8_inputs.cls yX8_inputs yX8_inputs ∈ BIG := bgp (q := (yX8_inputs, 52)) (List.mem_of_getElem? (i := 70) (by decide +kernel)) rfl
theorem mw8_296 : Cond.methodLink RX8 296 yX8_inputs ∈ BIG := bg6 128 (by decide +kernel) rfl
theorem l8_296 : LkV RX8 296 8 yX8_inputs cX8_inputs 3 ((some .int)) 0 := ⟨mw8_296, knyX8_inputs, ksyX8_inputs, kiyX8_inputs, kyX8_inputs, ⟨_, rfl, rfl⟩, rfl, by decide +kernel, by decide +kernel, by decide +kernel⟩
/-- RoundedSumsModel.inputs -/
theorem v8_296 {E : Ev} {cc : ByteArray} {nL : Nat} {ret : Option FieldType} {R : Room} {cl sl : Nat} {Z : Zt} {pc : Nat} {L st : List Vv} {M : Mm} {N : Nn} {a b : Nat}  {h : Nat} {P : Int → Mm → Nn → Prop} (hd : decode cc pc = .ok (.invokevirtual 296, 3)) (hct : Nat.ble (ctL st) 8 = true) (hR : Nat.ble (h + 1) R.frames = true ∧ Nat.ble (8 + (3 + 11) + 40 * h) R.locals = true) (hcl : Nat.ble cl R.cells = true ∧ Nat.ble sl R.slots = true) (hc : Ct E yX8_inputs cX8_inputs 3 ((some .int)) (rmH h) [vr (29, a, b)] M N (qi P)) (k : ∀ r M1 N1, R32 r → P r M1 N1 → Go E RX8 cc nL ret R cl sl Z (pc + 3) L (vi r :: st) M1 N1) : Go E RX8 cc nL ret R cl sl Z (pc) L (vr (29, a, b) :: st) M N := go_callV (As := []) hd l8_296 rfl rfl rfl hct ⟨rfl, rfl⟩ ⟨Nat.le_of_ble_eq_true hR.1, Nat.le_of_ble_eq_true hR.2⟩ hc hcl (fun r M1 N1 h => by obtain ⟨z, rfl, h1, h⟩ := h; exact k z M1 N1 h1 h)
theorem kyX8_laysForms : Cond.code yX8_laysForms cX8_laysForms 2 (none) ∈ BIG := bg6 135 (rfl) rfl
theorem kiyX8_laysForms : Cond.initialized yX8_laysForms.cls ∈ BIG := bg1 9 (by decide +kernel) rfl
theorem knyX8_laysForms : Cond.instanceMethod yX8_laysForms ∈ BIG := bg6 134 (by decide +kernel) rfl
theorem ksyX8_laysForms : Cond.selects yX8_laysForms.cls yX8_laysForms yX8_laysForms ∈ BIG := bgp (q := (yX8_laysForms, 52)) (List.mem_of_getElem? (i := 71) (by decide +kernel)) rfl
theorem mw8_299 : Cond.methodLink RX8 299 yX8_laysForms ∈ BIG := bg6 132 (by decide +kernel) rfl
theorem l8_299 : LkV RX8 299 8 yX8_laysForms cX8_laysForms 2 (none) 0 := ⟨mw8_299, knyX8_laysForms, ksyX8_laysForms, kiyX8_laysForms, kyX8_laysForms, ⟨_, rfl, rfl⟩, rfl, by decide +kernel, by decide +kernel, by decide +kernel⟩
/-- RoundedSumsModel.laysForms -/
theorem v8_299 {E : Ev} {cc : ByteArray} {nL : Nat} {ret : Option FieldType} {R : Room} {cl sl : Nat} {Z : Zt} {pc : Nat} {L st : List Vv} {M : Mm} {N : Nn} {a b : Nat}  {h : Nat} {P : Mm → Nn → Prop} (hd : decode cc pc = .ok (.invokevirtual 299, 3)) (hct : Nat.ble (ctL st) 8 = true) (hR : Nat.ble (h + 1) R.frames = true ∧ Nat.ble (8 + (2 + 11) + 40 * h) R.locals = true) (hcl : Nat.ble cl R.cells = true ∧ Nat.ble sl R.slots = true) (hc : Ct E yX8_laysForms cX8_laysForms 2 (none) (rmH h) [vr (29, a, b)] M N (qv P)) (k : ∀ M1 N1, P M1 N1 → Go E RX8 cc nL ret R cl sl Z (pc + 3) L (st) M1 N1) : Go E RX8 cc nL ret R cl sl Z (pc) L (vr (29, a, b) :: st) M N := go_callV (As := []) hd l8_299 rfl rfl rfl hct ⟨rfl, rfl⟩ ⟨Nat.le_of_ble_eq_true hR.1, Nat.le_of_ble_eq_true hR.2⟩ hc hcl (fun r M1 N1 h => by obtain ⟨rfl, h⟩ := h; exact k M1 N1 h)
theorem kyX8_points : Cond.code yX8_points cX8_points 4 ((some .long)) ∈ BIG := bg6 223 (rfl) rfl
theorem kiyX8_points : Cond.initialized yX8_points.cls ∈ BIG := bg1 9 (by decide +kernel) rfl
theorem knyX8_points : Cond.instanceMethod yX8_points ∈ BIG := bg6 222 (by decide +kernel) rfl
theorem ksyX8_points : Cond.selects yX8_points.cls yX8_points yX8_points ∈ BIG := bgp (q := (yX8_points, 52)) (List.mem_of_getElem? (i := 89) (by decide +kernel)) rfl
theorem mw8_305 : Cond.methodLink RX8 305 yX8_points ∈ BIG := bg6 220 (by decide +kernel) rfl
theorem l8_305 : LkV RX8 305 8 yX8_points cX8_points 4 ((some .long)) 0 := ⟨mw8_305, knyX8_points, ksyX8_points, kiyX8_points, kyX8_points, ⟨_, rfl, rfl⟩, rfl, by decide +kernel, by decide +kernel, by decide +kernel⟩
/-- RoundedSumsModel.points -/
theorem v8_305 {E : Ev} {cc : ByteArray} {nL : Nat} {ret : Option FieldType} {R : Room} {cl sl : Nat} {Z : Zt} {pc : Nat} {L st : List Vv} {M : Mm} {N : Nn} {a b : Nat}  {h : Nat} {P : Int → Mm → Nn → Prop} (hd : decode cc pc = .ok (.invokevirtual 305, 3)) (hct : Nat.ble (ctL st) 8 = true) (hR : Nat.ble (h + 1) R.frames = true ∧ Nat.ble (8 + (4 + 11) + 40 * h) R.locals = true) (hcl : Nat.ble cl R.cells = true ∧ Nat.ble sl R.slots = true) (hc : Ct E yX8_points cX8_points 4 ((some .long)) (rmH h) [vr (29, a, b)] M N (ql P)) (k : ∀ r M1 N1, R64 r → P r M1 N1 → Go E RX8 cc nL ret R cl sl Z (pc + 3) L (vl r :: st) M1 N1) : Go E RX8 cc nL ret R cl sl Z (pc) L (vr (29, a, b) :: st) M N := go_callV (As := []) hd l8_305 rfl rfl rfl hct ⟨rfl, rfl⟩ ⟨Nat.le_of_ble_eq_true hR.1, Nat.le_of_ble_eq_true hR.2⟩ hc hcl (fun r M1 N1 h => by obtain ⟨z, rfl, h1, h⟩ := h; exact k z M1 N1 h1 h)
theorem kyX8_laysFine : Cond.code yX8_laysFine cX8_laysFine 5 (none) ∈ BIG := bg6 143 (rfl) rfl
theorem kiyX8_laysFine : Cond.initialized yX8_laysFine.cls ∈ BIG := bg1 9 (by decide +kernel) rfl
theorem knyX8_laysFine : Cond.instanceMethod yX8_laysFine ∈ BIG := bg6 142 (by decide +kernel) rfl
theorem ksyX8_laysFine : Cond.selects yX8_laysFine.cls yX8_laysFine yX8_laysFine ∈ BIG := bgp (q := (yX8_laysFine, 52)) (List.mem_of_getElem? (i := 73) (by decide +kernel)) rfl
theorem mw8_313 : Cond.methodLink RX8 313 yX8_laysFine ∈ BIG := bg6 140 (by decide +kernel) rfl
theorem l8_313 : LkV RX8 313 8 yX8_laysFine cX8_laysFine 5 (none) 0 := ⟨mw8_313, knyX8_laysFine, ksyX8_laysFine, kiyX8_laysFine, kyX8_laysFine, ⟨_, rfl, rfl⟩, rfl, by decide +kernel, by decide +kernel, by decide +kernel⟩
/-- RoundedSumsModel.laysFine -/
theorem v8_313 {E : Ev} {cc : ByteArray} {nL : Nat} {ret : Option FieldType} {R : Room} {cl sl : Nat} {Z : Zt} {pc : Nat} {L st : List Vv} {M : Mm} {N : Nn} {a b : Nat}  {h : Nat} {P : Mm → Nn → Prop} (hd : decode cc pc = .ok (.invokevirtual 313, 3)) (hct : Nat.ble (ctL st) 8 = true) (hR : Nat.ble (h + 1) R.frames = true ∧ Nat.ble (8 + (5 + 11) + 40 * h) R.locals = true) (hcl : Nat.ble cl R.cells = true ∧ Nat.ble sl R.slots = true) (hc : Ct E yX8_laysFine cX8_laysFine 5 (none) (rmH h) [vr (29, a, b)] M N (qv P)) (k : ∀ M1 N1, P M1 N1 → Go E RX8 cc nL ret R cl sl Z (pc + 3) L (st) M1 N1) : Go E RX8 cc nL ret R cl sl Z (pc) L (vr (29, a, b) :: st) M N := go_callV (As := []) hd l8_313 rfl rfl rfl hct ⟨rfl, rfl⟩ ⟨Nat.le_of_ble_eq_true hR.1, Nat.le_of_ble_eq_true hR.2⟩ hc hcl (fun r M1 N1 h => by obtain ⟨rfl, h⟩ := h; exact k M1 N1 h)
theorem kyX8_isStep : Cond.code yX8_isStep cX8_isStep 2 ((some .boolean)) ∈ BIG := bg7 3 (rfl) rfl
theorem kiyX8_isStep : Cond.initialized yX8_isStep.cls ∈ BIG := bg1 9 (by decide +kernel) rfl
theorem knyX8_isStep : Cond.instanceMethod yX8_isStep ∈ BIG := bg7 2 (by decide +kernel) rfl
theorem ksyX8_isStep : Cond.selects yX8_isStep.cls yX8_isStep yX8_isStep ∈ BIG := bgp (q := (yX8_isStep, 52)) (List.mem_of_getElem? (i := 91) (by decide +kernel)) rfl
theorem mw8_316 : Cond.methodLink RX8 316 yX8_isStep ∈ BIG := bg7 0 (by decide +kernel) rfl
theorem l8_316 : LkV RX8 316 8 yX8_isStep cX8_isStep 2 ((some .boolean)) 1 := ⟨mw8_316, knyX8_isStep, ksyX8_isStep, kiyX8_isStep, kyX8_isStep, ⟨_, rfl, rfl⟩, rfl, by decide +kernel, by decide +kernel, by decide +kernel⟩
/-- RoundedSumsModel.isStep -/
theorem v8_316 {E : Ev} {cc : ByteArray} {nL : Nat} {ret : Option FieldType} {R : Room} {cl sl : Nat} {Z : Zt} {pc : Nat} {L st : List Vv} {M : Mm} {N : Nn} {a b : Nat} {x0 : Int} {h : Nat} {P : Int → Mm → Nn → Prop} (hd : decode cc pc = .ok (.invokevirtual 316, 3)) (hct : Nat.ble (ctL st) 8 = true) (hR : Nat.ble (h + 1) R.frames = true ∧ Nat.ble (8 + (2 + 11) + 40 * h) R.locals = true) (hcl : Nat.ble cl R.cells = true ∧ Nat.ble sl R.slots = true) (hc : Ct E yX8_isStep cX8_isStep 2 ((some .boolean)) (rmH h) [vr (29, a, b), vi x0] M N (qi P)) (k : ∀ r M1 N1, R32 r → P r M1 N1 → Go E RX8 cc nL ret R cl sl Z (pc + 3) L (vi r :: st) M1 N1) : Go E RX8 cc nL ret R cl sl Z (pc) L (vi x0 :: vr (29, a, b) :: st) M N := go_callV (As := [vi x0]) hd l8_316 rfl rfl rfl hct ⟨rfl, rfl⟩ ⟨Nat.le_of_ble_eq_true hR.1, Nat.le_of_ble_eq_true hR.2⟩ hc hcl (fun r M1 N1 h => by obtain ⟨z, rfl, h1, h⟩ := h; exact k z M1 N1 h1 h)
theorem kyX8_operands : Cond.code yX8_operands cX8_operands 1 ((some .int)) ∈ BIG := bg7 6 (rfl) rfl
theorem kiyX8_operands : Cond.initialized yX8_operands.cls ∈ BIG := bg1 9 (by decide +kernel) rfl
theorem ktyX8_operands : Cond.static yX8_operands ∈ BIG := bg7 5 (by decide +kernel) rfl
theorem mw8_319 : Cond.methodLink RX8 319 yX8_operands ∈ BIG := bg7 4 (by decide +kernel) rfl
theorem l8_319 : LkS RX8 319 yX8_operands cX8_operands 1 ((some .int)) 1 := ⟨mw8_319, ktyX8_operands, kiyX8_operands, kyX8_operands, by decide +kernel, by decide +kernel, by decide +kernel⟩
/-- RoundedSumsModel.operands -/
theorem v8_319 {E : Ev} {cc : ByteArray} {nL : Nat} {ret : Option FieldType} {R : Room} {cl sl : Nat} {Z : Zt} {pc : Nat} {L st : List Vv} {M : Mm} {N : Nn} {x0 : Int} {h : Nat} {P : Int → Mm → Nn → Prop} (hd : decode cc pc = .ok (.invokestatic 319, 3)) (hct : Nat.ble (ctL st) 8 = true) (hR : Nat.ble (h + 1) R.frames = true ∧ Nat.ble (8 + (1 + 11) + 40 * h) R.locals = true) (hcl : Nat.ble cl R.cells = true ∧ Nat.ble sl R.slots = true) (hc : Ct E yX8_operands cX8_operands 1 ((some .int)) (rmH h) [vi x0] M N (qi P)) (k : ∀ r M1 N1, R32 r → P r M1 N1 → Go E RX8 cc nL ret R cl sl Z (pc + 3) L (vi r :: st) M1 N1) : Go E RX8 cc nL ret R cl sl Z (pc) L (vi x0 :: st) M N := go_callS (As := [vi x0]) hd l8_319 rfl rfl hct ⟨rfl, rfl⟩ ⟨Nat.le_of_ble_eq_true hR.1, Nat.le_of_ble_eq_true hR.2⟩ hc hcl (fun r M1 N1 h => by obtain ⟨z, rfl, h1, h⟩ := h; exact k z M1 N1 h1 h)
theorem kyJ9_floorDiv_f86c9 : Cond.code yJ9_floorDiv_f86c9 cJ9_floorDiv_f86c9 6 ((some .long)) ∈ BIG := bg6 219 (rfl) rfl
theorem kiyJ9_floorDiv_f86c9 : Cond.initialized yJ9_floorDiv_f86c9.cls ∈ BIG := bg1 14 (by decide +kernel) rfl
theorem ktyJ9_floorDiv_f86c9 : Cond.static yJ9_floorDiv_f86c9 ∈ BIG := bg6 218 (by decide +kernel) rfl
theorem mw8_322 : Cond.methodLink RX8 322 yJ9_floorDiv_f86c9 ∈ BIG := bg6 217 (by decide +kernel) rfl
theorem l8_322 : LkS RX8 322 yJ9_floorDiv_f86c9 cJ9_floorDiv_f86c9 6 ((some .long)) 2 := ⟨mw8_322, ktyJ9_floorDiv_f86c9, kiyJ9_floorDiv_f86c9, kyJ9_floorDiv_f86c9, by decide +kernel, by decide +kernel, by decide +kernel⟩
/-- java/lang/Math.floorDiv -/
theorem v8_322 {E : Ev} {cc : ByteArray} {nL : Nat} {ret : Option FieldType} {R : Room} {cl sl : Nat} {Z : Zt} {pc : Nat} {L st : List Vv} {M : Mm} {N : Nn} {x0 : Int} {x1 : Int} {h : Nat} {P : Int → Mm → Nn → Prop} (hd : decode cc pc = .ok (.invokestatic 322, 3)) (hct : Nat.ble (ctL st) 8 = true) (hR : Nat.ble (h + 1) R.frames = true ∧ Nat.ble (8 + (6 + 11) + 40 * h) R.locals = true) (hcl : Nat.ble cl R.cells = true ∧ Nat.ble sl R.slots = true) (hc : Ct E yJ9_floorDiv_f86c9 cJ9_floorDiv_f86c9 6 ((some .long)) (rmH h) [vl x0, vl x1] M N (ql P)) (k : ∀ r M1 N1, R64 r → P r M1 N1 → Go E RX8 cc nL ret R cl sl Z (pc + 3) L (vl r :: st) M1 N1) : Go E RX8 cc nL ret R cl sl Z (pc) L (vl x1 :: vl x0 :: st) M N := go_callS (As := [vl x0, vl x1]) hd l8_322 rfl rfl hct ⟨rfl, rfl⟩ ⟨Nat.le_of_ble_eq_true hR.1, Nat.le_of_ble_eq_true hR.2⟩ hc hcl (fun r M1 N1 h => by obtain ⟨z, rfl, h1, h⟩ := h; exact k z M1 N1 h1 h)
theorem kyX8_told : Cond.code yX8_told cX8_told 5 ((some .long)) ∈ BIG := bg7 37 (rfl) rfl
theorem kiyX8_told : Cond.initialized yX8_told.cls ∈ BIG := bg1 9 (by decide +kernel) rfl
theorem knyX8_told : Cond.instanceMethod yX8_told ∈ BIG := bg7 36 (by decide +kernel) rfl
theorem ksyX8_told : Cond.selects yX8_told.cls yX8_told yX8_told ∈ BIG := bgp (q := (yX8_told, 52)) (List.mem_of_getElem? (i := 96) (by decide +kernel)) rfl
theorem mw8_328 : Cond.methodLink RX8 328 yX8_told ∈ BIG := bg7 34 (by decide +kernel) rfl
theorem l8_328 : LkV RX8 328 8 yX8_told cX8_told 5 ((some .long)) 3 := ⟨mw8_328, knyX8_told, ksyX8_told, kiyX8_told, kyX8_told, ⟨_, rfl, rfl⟩, rfl, by decide +kernel, by decide +kernel, by decide +kernel⟩
/-- RoundedSumsModel.told -/
theorem v8_328 {E : Ev} {cc : ByteArray} {nL : Nat} {ret : Option FieldType} {R : Room} {cl sl : Nat} {Z : Zt} {pc : Nat} {L st : List Vv} {M : Mm} {N : Nn} {a b : Nat} {x0 : Nm} {x1 : Int} {x2 : Int} {h : Nat} {P : Int → Mm → Nn → Prop} (hd : decode cc pc = .ok (.invokevirtual 328, 3)) (hct : Nat.ble (ctL st) 8 = true) (hR : Nat.ble (h + 1) R.frames = true ∧ Nat.ble (8 + (5 + 11) + 40 * h) R.locals = true) (hcl : Nat.ble cl R.cells = true ∧ Nat.ble sl R.slots = true) (hc : Ct E yX8_told cX8_told 5 ((some .long)) (rmH h) [vr (29, a, b), vr x0, vi x1, vi x2] M N (ql P)) (k : ∀ r M1 N1, R64 r → P r M1 N1 → Go E RX8 cc nL ret R cl sl Z (pc + 3) L (vl r :: st) M1 N1) : Go E RX8 cc nL ret R cl sl Z (pc) L (vi x2 :: vi x1 :: vr x0 :: vr (29, a, b) :: st) M N := go_callV (As := [vr x0, vi x1, vi x2]) hd l8_328 rfl rfl rfl hct ⟨rfl, rfl⟩ ⟨Nat.le_of_ble_eq_true hR.1, Nat.le_of_ble_eq_true hR.2⟩ hc hcl (fun r M1 N1 h => by obtain ⟨z, rfl, h1, h⟩ := h; exact k z M1 N1 h1 h)
theorem kyX8_reckoned : Cond.code yX8_reckoned cX8_reckoned 3 ((some .long)) ∈ BIG := bg7 33 (rfl) rfl
theorem kiyX8_reckoned : Cond.initialized yX8_reckoned.cls ∈ BIG := bg1 9 (by decide +kernel) rfl
theorem knyX8_reckoned : Cond.instanceMethod yX8_reckoned ∈ BIG := bg7 32 (by decide +kernel) rfl
theorem ksyX8_reckoned : Cond.selects yX8_reckoned.cls yX8_reckoned yX8_reckoned ∈ BIG := bgp (q := (yX8_reckoned, 52)) (List.mem_of_getElem? (i := 95) (by decide +kernel)) rfl
theorem mw8_332 : Cond.methodLink RX8 332 yX8_reckoned ∈ BIG := bg7 30 (by decide +kernel) rfl
theorem l8_332 : LkV RX8 332 8 yX8_reckoned cX8_reckoned 3 ((some .long)) 2 := ⟨mw8_332, knyX8_reckoned, ksyX8_reckoned, kiyX8_reckoned, kyX8_reckoned, ⟨_, rfl, rfl⟩, rfl, by decide +kernel, by decide +kernel, by decide +kernel⟩
/-- RoundedSumsModel.reckoned -/
theorem v8_332 {E : Ev} {cc : ByteArray} {nL : Nat} {ret : Option FieldType} {R : Room} {cl sl : Nat} {Z : Zt} {pc : Nat} {L st : List Vv} {M : Mm} {N : Nn} {a b : Nat} {x0 : Nm} {x1 : Int} {h : Nat} {P : Int → Mm → Nn → Prop} (hd : decode cc pc = .ok (.invokevirtual 332, 3)) (hct : Nat.ble (ctL st) 8 = true) (hR : Nat.ble (h + 1) R.frames = true ∧ Nat.ble (8 + (3 + 11) + 40 * h) R.locals = true) (hcl : Nat.ble cl R.cells = true ∧ Nat.ble sl R.slots = true) (hc : Ct E yX8_reckoned cX8_reckoned 3 ((some .long)) (rmH h) [vr (29, a, b), vr x0, vi x1] M N (ql P)) (k : ∀ r M1 N1, R64 r → P r M1 N1 → Go E RX8 cc nL ret R cl sl Z (pc + 3) L (vl r :: st) M1 N1) : Go E RX8 cc nL ret R cl sl Z (pc) L (vi x1 :: vr x0 :: vr (29, a, b) :: st) M N := go_callV (As := [vr x0, vi x1]) hd l8_332 rfl rfl rfl hct ⟨rfl, rfl⟩ ⟨Nat.le_of_ble_eq_true hR.1, Nat.le_of_ble_eq_true hR.2⟩ hc hcl (fun r M1 N1 h => by obtain ⟨z, rfl, h1, h⟩ := h; exact k z M1 N1 h1 h)
theorem kyX8_rounded : Cond.code yX8_rounded cX8_rounded 10 ((some .long)) ∈ BIG := bg7 40 (rfl) rfl
theorem kiyX8_rounded : Cond.initialized yX8_rounded.cls ∈ BIG := bg1 9 (by decide +kernel) rfl
theorem ktyX8_rounded : Cond.static yX8_rounded ∈ BIG := bg7 39 (by decide +kernel) rfl
theorem mw8_336 : Cond.methodLink RX8 336 yX8_rounded ∈ BIG := bg7 38 (by decide +kernel) rfl
theorem l8_336 : LkS RX8 336 yX8_rounded cX8_rounded 10 ((some .long)) 2 := ⟨mw8_336, ktyX8_rounded, kiyX8_rounded, kyX8_rounded, by decide +kernel, by decide +kernel, by decide +kernel⟩
/-- RoundedSumsModel.rounded -/
theorem v8_336 {E : Ev} {cc : ByteArray} {nL : Nat} {ret : Option FieldType} {R : Room} {cl sl : Nat} {Z : Zt} {pc : Nat} {L st : List Vv} {M : Mm} {N : Nn} {x0 : Int} {x1 : Int} {h : Nat} {P : Int → Mm → Nn → Prop} (hd : decode cc pc = .ok (.invokestatic 336, 3)) (hct : Nat.ble (ctL st) 8 = true) (hR : Nat.ble (h + 1) R.frames = true ∧ Nat.ble (8 + (10 + 11) + 40 * h) R.locals = true) (hcl : Nat.ble cl R.cells = true ∧ Nat.ble sl R.slots = true) (hc : Ct E yX8_rounded cX8_rounded 10 ((some .long)) (rmH h) [vl x0, vi x1] M N (ql P)) (k : ∀ r M1 N1, R64 r → P r M1 N1 → Go E RX8 cc nL ret R cl sl Z (pc + 3) L (vl r :: st) M1 N1) : Go E RX8 cc nL ret R cl sl Z (pc) L (vi x1 :: vl x0 :: st) M N := go_callS (As := [vl x0, vi x1]) hd l8_336 rfl rfl hct ⟨rfl, rfl⟩ ⟨Nat.le_of_ble_eq_true hR.1, Nat.le_of_ble_eq_true hR.2⟩ hc hcl (fun r M1 N1 h => by obtain ⟨z, rfl, h1, h⟩ := h; exact k z M1 N1 h1 h)
theorem kyX8_reckons : Cond.code yX8_reckons cX8_reckons 2 (none) ∈ BIG := bg7 29 (rfl) rfl
theorem kiyX8_reckons : Cond.initialized yX8_reckons.cls ∈ BIG := bg1 9 (by decide +kernel) rfl
theorem knyX8_reckons : Cond.instanceMethod yX8_reckons ∈ BIG := bg7 28 (by decide +kernel) rfl
theorem ksyX8_reckons : Cond.selects yX8_reckons.cls yX8_reckons yX8_reckons ∈ BIG := bgp (q := (yX8_reckons, 52)) (List.mem_of_getElem? (i := 94) (by decide +kernel)) rfl
theorem mw8_340 : Cond.methodLink RX8 340 yX8_reckons ∈ BIG := bg7 26 (by decide +kernel) rfl
theorem l8_340 : LkV RX8 340 8 yX8_reckons cX8_reckons 2 (none) 0 := ⟨mw8_340, knyX8_reckons, ksyX8_reckons, kiyX8_reckons, kyX8_reckons, ⟨_, rfl, rfl⟩, rfl, by decide +kernel, by decide +kernel, by decide +kernel⟩
/-- RoundedSumsModel.reckons -/
theorem v8_340 {E : Ev} {cc : ByteArray} {nL : Nat} {ret : Option FieldType} {R : Room} {cl sl : Nat} {Z : Zt} {pc : Nat} {L st : List Vv} {M : Mm} {N : Nn} {a b : Nat}  {h : Nat} {P : Mm → Nn → Prop} (hd : decode cc pc = .ok (.invokevirtual 340, 3)) (hct : Nat.ble (ctL st) 8 = true) (hR : Nat.ble (h + 1) R.frames = true ∧ Nat.ble (8 + (2 + 11) + 40 * h) R.locals = true) (hcl : Nat.ble cl R.cells = true ∧ Nat.ble sl R.slots = true) (hc : Ct E yX8_reckons cX8_reckons 2 (none) (rmH h) [vr (29, a, b)] M N (qv P)) (k : ∀ M1 N1, P M1 N1 → Go E RX8 cc nL ret R cl sl Z (pc + 3) L (st) M1 N1) : Go E RX8 cc nL ret R cl sl Z (pc) L (vr (29, a, b) :: st) M N := go_callV (As := []) hd l8_340 rfl rfl rfl hct ⟨rfl, rfl⟩ ⟨Nat.le_of_ble_eq_true hR.1, Nat.le_of_ble_eq_true hR.2⟩ hc hcl (fun r M1 N1 h => by obtain ⟨rfl, h⟩ := h; exact k M1 N1 h)
theorem kyX8_isInputAt : Cond.code yX8_isInputAt cX8_isInputAt 2 ((some .boolean)) ∈ BIG := bg7 14 (rfl) rfl
theorem kiyX8_isInputAt : Cond.initialized yX8_isInputAt.cls ∈ BIG := bg1 9 (by decide +kernel) rfl
theorem knyX8_isInputAt : Cond.instanceMethod yX8_isInputAt ∈ BIG := bg7 13 (by decide +kernel) rfl
theorem ksyX8_isInputAt : Cond.selects yX8_isInputAt.cls yX8_isInputAt yX8_isInputAt ∈ BIG := bgp (q := (yX8_isInputAt, 52)) (List.mem_of_getElem? (i := 92) (by decide +kernel)) rfl
theorem mw8_343 : Cond.methodLink RX8 343 yX8_isInputAt ∈ BIG := bg7 11 (by decide +kernel) rfl
theorem l8_343 : LkV RX8 343 8 yX8_isInputAt cX8_isInputAt 2 ((some .boolean)) 1 := ⟨mw8_343, knyX8_isInputAt, ksyX8_isInputAt, kiyX8_isInputAt, kyX8_isInputAt, ⟨_, rfl, rfl⟩, rfl, by decide +kernel, by decide +kernel, by decide +kernel⟩
/-- RoundedSumsModel.isInputAt -/
theorem v8_343 {E : Ev} {cc : ByteArray} {nL : Nat} {ret : Option FieldType} {R : Room} {cl sl : Nat} {Z : Zt} {pc : Nat} {L st : List Vv} {M : Mm} {N : Nn} {a b : Nat} {x0 : Int} {h : Nat} {P : Int → Mm → Nn → Prop} (hd : decode cc pc = .ok (.invokevirtual 343, 3)) (hct : Nat.ble (ctL st) 8 = true) (hR : Nat.ble (h + 1) R.frames = true ∧ Nat.ble (8 + (2 + 11) + 40 * h) R.locals = true) (hcl : Nat.ble cl R.cells = true ∧ Nat.ble sl R.slots = true) (hc : Ct E yX8_isInputAt cX8_isInputAt 2 ((some .boolean)) (rmH h) [vr (29, a, b), vi x0] M N (qi P)) (k : ∀ r M1 N1, R32 r → P r M1 N1 → Go E RX8 cc nL ret R cl sl Z (pc + 3) L (vi r :: st) M1 N1) : Go E RX8 cc nL ret R cl sl Z (pc) L (vi x0 :: vr (29, a, b) :: st) M N := go_callV (As := [vi x0]) hd l8_343 rfl rfl rfl hct ⟨rfl, rfl⟩ ⟨Nat.le_of_ble_eq_true hR.1, Nat.le_of_ble_eq_true hR.2⟩ hc hcl (fun r M1 N1 h => by obtain ⟨z, rfl, h1, h⟩ := h; exact k z M1 N1 h1 h)
theorem kyX8_unless_ : Cond.code yX8_unless_ cX8_unless_ 2 ((some .int)) ∈ BIG := bg7 17 (rfl) rfl
theorem kiyX8_unless_ : Cond.initialized yX8_unless_.cls ∈ BIG := bg1 9 (by decide +kernel) rfl
theorem ktyX8_unless_ : Cond.static yX8_unless_ ∈ BIG := bg7 16 (by decide +kernel) rfl
theorem mw8_346 : Cond.methodLink RX8 346 yX8_unless_ ∈ BIG := bg7 15 (by decide +kernel) rfl
theorem l8_346 : LkS RX8 346 yX8_unless_ cX8_unless_ 2 ((some .int)) 2 := ⟨mw8_346, ktyX8_unless_, kiyX8_unless_, kyX8_unless_, by decide +kernel, by decide +kernel, by decide +kernel⟩
/-- RoundedSumsModel.unless -/
theorem v8_346 {E : Ev} {cc : ByteArray} {nL : Nat} {ret : Option FieldType} {R : Room} {cl sl : Nat} {Z : Zt} {pc : Nat} {L st : List Vv} {M : Mm} {N : Nn} {x0 : Int} {x1 : Int} {h : Nat} {P : Int → Mm → Nn → Prop} (hd : decode cc pc = .ok (.invokestatic 346, 3)) (hct : Nat.ble (ctL st) 8 = true) (hR : Nat.ble (h + 1) R.frames = true ∧ Nat.ble (8 + (2 + 11) + 40 * h) R.locals = true) (hcl : Nat.ble cl R.cells = true ∧ Nat.ble sl R.slots = true) (hc : Ct E yX8_unless_ cX8_unless_ 2 ((some .int)) (rmH h) [vi x0, vi x1] M N (qi P)) (k : ∀ r M1 N1, R32 r → P r M1 N1 → Go E RX8 cc nL ret R cl sl Z (pc + 3) L (vi r :: st) M1 N1) : Go E RX8 cc nL ret R cl sl Z (pc) L (vi x1 :: vi x0 :: st) M N := go_callS (As := [vi x0, vi x1]) hd l8_346 rfl rfl hct ⟨rfl, rfl⟩ ⟨Nat.le_of_ble_eq_true hR.1, Nat.le_of_ble_eq_true hR.2⟩ hc hcl (fun r M1 N1 h => by obtain ⟨z, rfl, h1, h⟩ := h; exact k z M1 N1 h1 h)
theorem kyX8_laysPoint : Cond.code yX8_laysPoint cX8_laysPoint 2 (none) ∈ BIG := bg7 25 (rfl) rfl
theorem kiyX8_laysPoint : Cond.initialized yX8_laysPoint.cls ∈ BIG := bg1 9 (by decide +kernel) rfl
theorem knyX8_laysPoint : Cond.instanceMethod yX8_laysPoint ∈ BIG := bg7 24 (by decide +kernel) rfl
theorem ksyX8_laysPoint : Cond.selects yX8_laysPoint.cls yX8_laysPoint yX8_laysPoint ∈ BIG := bgp (q := (yX8_laysPoint, 52)) (List.mem_of_getElem? (i := 93) (by decide +kernel)) rfl
theorem mw8_349 : Cond.methodLink RX8 349 yX8_laysPoint ∈ BIG := bg7 22 (by decide +kernel) rfl
theorem l8_349 : LkV RX8 349 8 yX8_laysPoint cX8_laysPoint 2 (none) 0 := ⟨mw8_349, knyX8_laysPoint, ksyX8_laysPoint, kiyX8_laysPoint, kyX8_laysPoint, ⟨_, rfl, rfl⟩, rfl, by decide +kernel, by decide +kernel, by decide +kernel⟩
/-- RoundedSumsModel.laysPoint -/
theorem v8_349 {E : Ev} {cc : ByteArray} {nL : Nat} {ret : Option FieldType} {R : Room} {cl sl : Nat} {Z : Zt} {pc : Nat} {L st : List Vv} {M : Mm} {N : Nn} {a b : Nat}  {h : Nat} {P : Mm → Nn → Prop} (hd : decode cc pc = .ok (.invokevirtual 349, 3)) (hct : Nat.ble (ctL st) 8 = true) (hR : Nat.ble (h + 1) R.frames = true ∧ Nat.ble (8 + (2 + 11) + 40 * h) R.locals = true) (hcl : Nat.ble cl R.cells = true ∧ Nat.ble sl R.slots = true) (hc : Ct E yX8_laysPoint cX8_laysPoint 2 (none) (rmH h) [vr (29, a, b)] M N (qv P)) (k : ∀ M1 N1, P M1 N1 → Go E RX8 cc nL ret R cl sl Z (pc + 3) L (st) M1 N1) : Go E RX8 cc nL ret R cl sl Z (pc) L (vr (29, a, b) :: st) M N := go_callV (As := []) hd l8_349 rfl rfl rfl hct ⟨rfl, rfl⟩ ⟨Nat.le_of_ble_eq_true hR.1, Nat.le_of_ble_eq_true hR.2⟩ hc hcl (fun r M1 N1 h => by obtain ⟨rfl, h⟩ := h; exact k M1 N1 h)
theorem kyX8_whyNoPick : Cond.code yX8_whyNoPick cX8_whyNoPick 2 ((some .int)) ∈ BIG := bg7 48 (rfl) rfl
theorem kiyX8_whyNoPick : Cond.initialized yX8_whyNoPick.cls ∈ BIG := bg1 9 (by decide +kernel) rfl
theorem knyX8_whyNoPick : Cond.instanceMethod yX8_whyNoPick ∈ BIG := bg7 47 (by decide +kernel) rfl
theorem ksyX8_whyNoPick : Cond.selects yX8_whyNoPick.cls yX8_whyNoPick yX8_whyNoPick ∈ BIG := bgp (q := (yX8_whyNoPick, 52)) (List.mem_of_getElem? (i := 97) (by decide +kernel)) rfl
theorem mw8_352 : Cond.methodLink RX8 352 yX8_whyNoPick ∈ BIG := bg7 45 (by decide +kernel) rfl
theorem l8_352 : LkV RX8 352 8 yX8_whyNoPick cX8_whyNoPick 2 ((some .int)) 1 := ⟨mw8_352, knyX8_whyNoPick, ksyX8_whyNoPick, kiyX8_whyNoPick, kyX8_whyNoPick, ⟨_, rfl, rfl⟩, rfl, by decide +kernel, by decide +kernel, by decide +kernel⟩
/-- RoundedSumsModel.whyNoPick -/
theorem v8_352 {E : Ev} {cc : ByteArray} {nL : Nat} {ret : Option FieldType} {R : Room} {cl sl : Nat} {Z : Zt} {pc : Nat} {L st : List Vv} {M : Mm} {N : Nn} {a b : Nat} {x0 : Int} {h : Nat} {P : Int → Mm → Nn → Prop} (hd : decode cc pc = .ok (.invokevirtual 352, 3)) (hct : Nat.ble (ctL st) 8 = true) (hR : Nat.ble (h + 1) R.frames = true ∧ Nat.ble (8 + (2 + 11) + 40 * h) R.locals = true) (hcl : Nat.ble cl R.cells = true ∧ Nat.ble sl R.slots = true) (hc : Ct E yX8_whyNoPick cX8_whyNoPick 2 ((some .int)) (rmH h) [vr (29, a, b), vi x0] M N (qi P)) (k : ∀ r M1 N1, R32 r → P r M1 N1 → Go E RX8 cc nL ret R cl sl Z (pc + 3) L (vi r :: st) M1 N1) : Go E RX8 cc nL ret R cl sl Z (pc) L (vi x0 :: vr (29, a, b) :: st) M N := go_callV (As := [vi x0]) hd l8_352 rfl rfl rfl hct ⟨rfl, rfl⟩ ⟨Nat.le_of_ble_eq_true hR.1, Nat.le_of_ble_eq_true hR.2⟩ hc hcl (fun r M1 N1 h => by obtain ⟨z, rfl, h1, h⟩ := h; exact k z M1 N1 h1 h)
theorem kyX8_wentOf : Cond.code yX8_wentOf cX8_wentOf 3 ((some .int)) ∈ BIG := bg7 52 (rfl) rfl
theorem kiyX8_wentOf : Cond.initialized yX8_wentOf.cls ∈ BIG := bg1 9 (by decide +kernel) rfl
theorem knyX8_wentOf : Cond.instanceMethod yX8_wentOf ∈ BIG := bg7 51 (by decide +kernel) rfl
theorem ksyX8_wentOf : Cond.selects yX8_wentOf.cls yX8_wentOf yX8_wentOf ∈ BIG := bgp (q := (yX8_wentOf, 52)) (List.mem_of_getElem? (i := 98) (by decide +kernel)) rfl
theorem mw8_355 : Cond.methodLink RX8 355 yX8_wentOf ∈ BIG := bg7 49 (by decide +kernel) rfl
theorem l8_355 : LkV RX8 355 8 yX8_wentOf cX8_wentOf 3 ((some .int)) 1 := ⟨mw8_355, knyX8_wentOf, ksyX8_wentOf, kiyX8_wentOf, kyX8_wentOf, ⟨_, rfl, rfl⟩, rfl, by decide +kernel, by decide +kernel, by decide +kernel⟩
/-- RoundedSumsModel.wentOf -/
theorem v8_355 {E : Ev} {cc : ByteArray} {nL : Nat} {ret : Option FieldType} {R : Room} {cl sl : Nat} {Z : Zt} {pc : Nat} {L st : List Vv} {M : Mm} {N : Nn} {a b : Nat} {x0 : Int} {h : Nat} {P : Int → Mm → Nn → Prop} (hd : decode cc pc = .ok (.invokevirtual 355, 3)) (hct : Nat.ble (ctL st) 8 = true) (hR : Nat.ble (h + 1) R.frames = true ∧ Nat.ble (8 + (3 + 11) + 40 * h) R.locals = true) (hcl : Nat.ble cl R.cells = true ∧ Nat.ble sl R.slots = true) (hc : Ct E yX8_wentOf cX8_wentOf 3 ((some .int)) (rmH h) [vr (29, a, b), vi x0] M N (qi P)) (k : ∀ r M1 N1, R32 r → P r M1 N1 → Go E RX8 cc nL ret R cl sl Z (pc + 3) L (vi r :: st) M1 N1) : Go E RX8 cc nL ret R cl sl Z (pc) L (vi x0 :: vr (29, a, b) :: st) M N := go_callV (As := [vi x0]) hd l8_355 rfl rfl rfl hct ⟨rfl, rfl⟩ ⟨Nat.le_of_ble_eq_true hR.1, Nat.le_of_ble_eq_true hR.2⟩ hc hcl (fun r M1 N1 h => by obtain ⟨z, rfl, h1, h⟩ := h; exact k z M1 N1 h1 h)
theorem kyX8_middle : Cond.code yX8_middle cX8_middle 1 ((some .int)) ∈ BIG := bg6 157 (rfl) rfl
theorem kiyX8_middle : Cond.initialized yX8_middle.cls ∈ BIG := bg1 9 (by decide +kernel) rfl
theorem ktyX8_middle : Cond.static yX8_middle ∈ BIG := bg6 156 (by decide +kernel) rfl
theorem mw8_358 : Cond.methodLink RX8 358 yX8_middle ∈ BIG := bg6 155 (by decide +kernel) rfl
theorem l8_358 : LkS RX8 358 yX8_middle cX8_middle 1 ((some .int)) 1 := ⟨mw8_358, ktyX8_middle, kiyX8_middle, kyX8_middle, by decide +kernel, by decide +kernel, by decide +kernel⟩
/-- RoundedSumsModel.middle -/
theorem v8_358 {E : Ev} {cc : ByteArray} {nL : Nat} {ret : Option FieldType} {R : Room} {cl sl : Nat} {Z : Zt} {pc : Nat} {L st : List Vv} {M : Mm} {N : Nn} {x0 : Int} {h : Nat} {P : Int → Mm → Nn → Prop} (hd : decode cc pc = .ok (.invokestatic 358, 3)) (hct : Nat.ble (ctL st) 8 = true) (hR : Nat.ble (h + 1) R.frames = true ∧ Nat.ble (8 + (1 + 11) + 40 * h) R.locals = true) (hcl : Nat.ble cl R.cells = true ∧ Nat.ble sl R.slots = true) (hc : Ct E yX8_middle cX8_middle 1 ((some .int)) (rmH h) [vi x0] M N (qi P)) (k : ∀ r M1 N1, R32 r → P r M1 N1 → Go E RX8 cc nL ret R cl sl Z (pc + 3) L (vi r :: st) M1 N1) : Go E RX8 cc nL ret R cl sl Z (pc) L (vi x0 :: st) M N := go_callS (As := [vi x0]) hd l8_358 rfl rfl hct ⟨rfl, rfl⟩ ⟨Nat.le_of_ble_eq_true hR.1, Nat.le_of_ble_eq_true hR.2⟩ hc hcl (fun r M1 N1 h => by obtain ⟨z, rfl, h1, h⟩ := h; exact k z M1 N1 h1 h)
theorem kyX8_radius : Cond.code yX8_radius cX8_radius 5 ((some .long)) ∈ BIG := bg6 185 (rfl) rfl
theorem kiyX8_radius : Cond.initialized yX8_radius.cls ∈ BIG := bg1 9 (by decide +kernel) rfl
theorem knyX8_radius : Cond.instanceMethod yX8_radius ∈ BIG := bg6 184 (by decide +kernel) rfl
theorem ksyX8_radius : Cond.selects yX8_radius.cls yX8_radius yX8_radius ∈ BIG := bgp (q := (yX8_radius, 52)) (List.mem_of_getElem? (i := 82) (by decide +kernel)) rfl
theorem mw8_361 : Cond.methodLink RX8 361 yX8_radius ∈ BIG := bg6 182 (by decide +kernel) rfl
theorem l8_361 : LkV RX8 361 8 yX8_radius cX8_radius 5 ((some .long)) 1 := ⟨mw8_361, knyX8_radius, ksyX8_radius, kiyX8_radius, kyX8_radius, ⟨_, rfl, rfl⟩, rfl, by decide +kernel, by decide +kernel, by decide +kernel⟩
/-- RoundedSumsModel.radius -/
theorem v8_361 {E : Ev} {cc : ByteArray} {nL : Nat} {ret : Option FieldType} {R : Room} {cl sl : Nat} {Z : Zt} {pc : Nat} {L st : List Vv} {M : Mm} {N : Nn} {a b : Nat} {x0 : Int} {h : Nat} {P : Int → Mm → Nn → Prop} (hd : decode cc pc = .ok (.invokevirtual 361, 3)) (hct : Nat.ble (ctL st) 8 = true) (hR : Nat.ble (h + 1) R.frames = true ∧ Nat.ble (8 + (5 + 11) + 40 * h) R.locals = true) (hcl : Nat.ble cl R.cells = true ∧ Nat.ble sl R.slots = true) (hc : Ct E yX8_radius cX8_radius 5 ((some .long)) (rmH h) [vr (29, a, b), vi x0] M N (ql P)) (k : ∀ r M1 N1, R64 r → P r M1 N1 → Go E RX8 cc nL ret R cl sl Z (pc + 3) L (vl r :: st) M1 N1) : Go E RX8 cc nL ret R cl sl Z (pc) L (vi x0 :: vr (29, a, b) :: st) M N := go_callV (As := [vi x0]) hd l8_361 rfl rfl rfl hct ⟨rfl, rfl⟩ ⟨Nat.le_of_ble_eq_true hR.1, Nat.le_of_ble_eq_true hR.2⟩ hc hcl (fun r M1 N1 h => by obtain ⟨z, rfl, h1, h⟩ := h; exact k z M1 N1 h1 h)
theorem kyX8_brings : Cond.code yX8_brings cX8_brings 5 (none) ∈ BIG := bg6 161 (rfl) rfl
theorem kiyX8_brings : Cond.initialized yX8_brings.cls ∈ BIG := bg1 9 (by decide +kernel) rfl
theorem knyX8_brings : Cond.instanceMethod yX8_brings ∈ BIG := bg6 160 (by decide +kernel) rfl
theorem ksyX8_brings : Cond.selects yX8_brings.cls yX8_brings yX8_brings ∈ BIG := bgp (q := (yX8_brings, 52)) (List.mem_of_getElem? (i := 76) (by decide +kernel)) rfl
theorem mw8_368 : Cond.methodLink RX8 368 yX8_brings ∈ BIG := bg6 158 (by decide +kernel) rfl
theorem l8_368 : LkV RX8 368 8 yX8_brings cX8_brings 5 (none) 3 := ⟨mw8_368, knyX8_brings, ksyX8_brings, kiyX8_brings, kyX8_brings, ⟨_, rfl, rfl⟩, rfl, by decide +kernel, by decide +kernel, by decide +kernel⟩
/-- RoundedSumsModel.brings -/
theorem v8_368 {E : Ev} {cc : ByteArray} {nL : Nat} {ret : Option FieldType} {R : Room} {cl sl : Nat} {Z : Zt} {pc : Nat} {L st : List Vv} {M : Mm} {N : Nn} {a b : Nat} {x0 : Int} {x1 : Int} {x2 : Int} {h : Nat} {P : Mm → Nn → Prop} (hd : decode cc pc = .ok (.invokevirtual 368, 3)) (hct : Nat.ble (ctL st) 8 = true) (hR : Nat.ble (h + 1) R.frames = true ∧ Nat.ble (8 + (5 + 11) + 40 * h) R.locals = true) (hcl : Nat.ble cl R.cells = true ∧ Nat.ble sl R.slots = true) (hc : Ct E yX8_brings cX8_brings 5 (none) (rmH h) [vr (29, a, b), vi x0, vl x1, vi x2] M N (qv P)) (k : ∀ M1 N1, P M1 N1 → Go E RX8 cc nL ret R cl sl Z (pc + 3) L (st) M1 N1) : Go E RX8 cc nL ret R cl sl Z (pc) L (vi x2 :: vl x1 :: vi x0 :: vr (29, a, b) :: st) M N := go_callV (As := [vi x0, vl x1, vi x2]) hd l8_368 rfl rfl rfl hct ⟨rfl, rfl⟩ ⟨Nat.le_of_ble_eq_true hR.1, Nat.le_of_ble_eq_true hR.2⟩ hc hcl (fun r M1 N1 h => by obtain ⟨rfl, h⟩ := h; exact k M1 N1 h)
theorem kyX8_copies : Cond.code yX8_copies cX8_copies 4 (none) ∈ BIG := bg6 173 (rfl) rfl
theorem kiyX8_copies : Cond.initialized yX8_copies.cls ∈ BIG := bg1 9 (by decide +kernel) rfl
theorem knyX8_copies : Cond.instanceMethod yX8_copies ∈ BIG := bg6 172 (by decide +kernel) rfl
theorem ksyX8_copies : Cond.selects yX8_copies.cls yX8_copies yX8_copies ∈ BIG := bgp (q := (yX8_copies, 52)) (List.mem_of_getElem? (i := 79) (by decide +kernel)) rfl
theorem mw8_375 : Cond.methodLink RX8 375 yX8_copies ∈ BIG := bg6 170 (by decide +kernel) rfl
theorem l8_375 : LkV RX8 375 8 yX8_copies cX8_copies 4 (none) 2 := ⟨mw8_375, knyX8_copies, ksyX8_copies, kiyX8_copies, kyX8_copies, ⟨_, rfl, rfl⟩, rfl, by decide +kernel, by decide +kernel, by decide +kernel⟩
/-- RoundedSumsModel.copies -/
theorem v8_375 {E : Ev} {cc : ByteArray} {nL : Nat} {ret : Option FieldType} {R : Room} {cl sl : Nat} {Z : Zt} {pc : Nat} {L st : List Vv} {M : Mm} {N : Nn} {a b : Nat} {x0 : Int} {x1 : Int} {h : Nat} {P : Mm → Nn → Prop} (hd : decode cc pc = .ok (.invokevirtual 375, 3)) (hct : Nat.ble (ctL st) 8 = true) (hR : Nat.ble (h + 1) R.frames = true ∧ Nat.ble (8 + (4 + 11) + 40 * h) R.locals = true) (hcl : Nat.ble cl R.cells = true ∧ Nat.ble sl R.slots = true) (hc : Ct E yX8_copies cX8_copies 4 (none) (rmH h) [vr (29, a, b), vi x0, vi x1] M N (qv P)) (k : ∀ M1 N1, P M1 N1 → Go E RX8 cc nL ret R cl sl Z (pc + 3) L (st) M1 N1) : Go E RX8 cc nL ret R cl sl Z (pc) L (vi x1 :: vi x0 :: vr (29, a, b) :: st) M N := go_callV (As := [vi x0, vi x1]) hd l8_375 rfl rfl rfl hct ⟨rfl, rfl⟩ ⟨Nat.le_of_ble_eq_true hR.1, Nat.le_of_ble_eq_true hR.2⟩ hc hcl (fun r M1 N1 h => by obtain ⟨rfl, h⟩ := h; exact k M1 N1 h)
theorem kyX8_leastOf : Cond.code yX8_leastOf cX8_leastOf 2 ((some .long)) ∈ BIG := bg6 198 (rfl) rfl
theorem kiyX8_leastOf : Cond.initialized yX8_leastOf.cls ∈ BIG := bg1 9 (by decide +kernel) rfl
theorem knyX8_leastOf : Cond.instanceMethod yX8_leastOf ∈ BIG := bg6 197 (by decide +kernel) rfl
theorem ksyX8_leastOf : Cond.selects yX8_leastOf.cls yX8_leastOf yX8_leastOf ∈ BIG := bgp (q := (yX8_leastOf, 52)) (List.mem_of_getElem? (i := 85) (by decide +kernel)) rfl
theorem mw8_379 : Cond.methodLink RX8 379 yX8_leastOf ∈ BIG := bg6 195 (by decide +kernel) rfl
theorem l8_379 : LkV RX8 379 8 yX8_leastOf cX8_leastOf 2 ((some .long)) 1 := ⟨mw8_379, knyX8_leastOf, ksyX8_leastOf, kiyX8_leastOf, kyX8_leastOf, ⟨_, rfl, rfl⟩, rfl, by decide +kernel, by decide +kernel, by decide +kernel⟩
/-- RoundedSumsModel.leastOf -/
theorem v8_379 {E : Ev} {cc : ByteArray} {nL : Nat} {ret : Option FieldType} {R : Room} {cl sl : Nat} {Z : Zt} {pc : Nat} {L st : List Vv} {M : Mm} {N : Nn} {a b : Nat} {x0 : Int} {h : Nat} {P : Int → Mm → Nn → Prop} (hd : decode cc pc = .ok (.invokevirtual 379, 3)) (hct : Nat.ble (ctL st) 8 = true) (hR : Nat.ble (h + 1) R.frames = true ∧ Nat.ble (8 + (2 + 11) + 40 * h) R.locals = true) (hcl : Nat.ble cl R.cells = true ∧ Nat.ble sl R.slots = true) (hc : Ct E yX8_leastOf cX8_leastOf 2 ((some .long)) (rmH h) [vr (29, a, b), vi x0] M N (ql P)) (k : ∀ r M1 N1, R64 r → P r M1 N1 → Go E RX8 cc nL ret R cl sl Z (pc + 3) L (vl r :: st) M1 N1) : Go E RX8 cc nL ret R cl sl Z (pc) L (vi x0 :: vr (29, a, b) :: st) M N := go_callV (As := [vi x0]) hd l8_379 rfl rfl rfl hct ⟨rfl, rfl⟩ ⟨Nat.le_of_ble_eq_true hR.1, Nat.le_of_ble_eq_true hR.2⟩ hc hcl (fun r M1 N1 h => by obtain ⟨z, rfl, h1, h⟩ := h; exact k z M1 N1 h1 h)
theorem kyX8_greatestOf : Cond.code yX8_greatestOf cX8_greatestOf 2 ((some .long)) ∈ BIG := bg6 202 (rfl) rfl
theorem kiyX8_greatestOf : Cond.initialized yX8_greatestOf.cls ∈ BIG := bg1 9 (by decide +kernel) rfl
theorem knyX8_greatestOf : Cond.instanceMethod yX8_greatestOf ∈ BIG := bg6 201 (by decide +kernel) rfl
theorem ksyX8_greatestOf : Cond.selects yX8_greatestOf.cls yX8_greatestOf yX8_greatestOf ∈ BIG := bgp (q := (yX8_greatestOf, 52)) (List.mem_of_getElem? (i := 86) (by decide +kernel)) rfl
theorem mw8_382 : Cond.methodLink RX8 382 yX8_greatestOf ∈ BIG := bg6 199 (by decide +kernel) rfl
theorem l8_382 : LkV RX8 382 8 yX8_greatestOf cX8_greatestOf 2 ((some .long)) 1 := ⟨mw8_382, knyX8_greatestOf, ksyX8_greatestOf, kiyX8_greatestOf, kyX8_greatestOf, ⟨_, rfl, rfl⟩, rfl, by decide +kernel, by decide +kernel, by decide +kernel⟩
/-- RoundedSumsModel.greatestOf -/
theorem v8_382 {E : Ev} {cc : ByteArray} {nL : Nat} {ret : Option FieldType} {R : Room} {cl sl : Nat} {Z : Zt} {pc : Nat} {L st : List Vv} {M : Mm} {N : Nn} {a b : Nat} {x0 : Int} {h : Nat} {P : Int → Mm → Nn → Prop} (hd : decode cc pc = .ok (.invokevirtual 382, 3)) (hct : Nat.ble (ctL st) 8 = true) (hR : Nat.ble (h + 1) R.frames = true ∧ Nat.ble (8 + (2 + 11) + 40 * h) R.locals = true) (hcl : Nat.ble cl R.cells = true ∧ Nat.ble sl R.slots = true) (hc : Ct E yX8_greatestOf cX8_greatestOf 2 ((some .long)) (rmH h) [vr (29, a, b), vi x0] M N (ql P)) (k : ∀ r M1 N1, R64 r → P r M1 N1 → Go E RX8 cc nL ret R cl sl Z (pc + 3) L (vl r :: st) M1 N1) : Go E RX8 cc nL ret R cl sl Z (pc) L (vi x0 :: vr (29, a, b) :: st) M N := go_callV (As := [vi x0]) hd l8_382 rfl rfl rfl hct ⟨rfl, rfl⟩ ⟨Nat.le_of_ble_eq_true hR.1, Nat.le_of_ble_eq_true hR.2⟩ hc hcl (fun r M1 N1 h => by obtain ⟨z, rfl, h1, h⟩ := h; exact k z M1 N1 h1 h)
theorem kyX8_clears : Cond.code yX8_clears cX8_clears 3 (none) ∈ BIG := bg6 154 (rfl) rfl
theorem kiyX8_clears : Cond.initialized yX8_clears.cls ∈ BIG := bg1 9 (by decide +kernel) rfl
theorem knyX8_clears : Cond.instanceMethod yX8_clears ∈ BIG := bg6 153 (by decide +kernel) rfl
theorem ksyX8_clears : Cond.selects yX8_clears.cls yX8_clears yX8_clears ∈ BIG := bgp (q := (yX8_clears, 52)) (List.mem_of_getElem? (i := 75) (by decide +kernel)) rfl
theorem mw8_385 : Cond.methodLink RX8 385 yX8_clears ∈ BIG := bg6 151 (by decide +kernel) rfl
theorem l8_385 : LkV RX8 385 8 yX8_clears cX8_clears 3 (none) 1 := ⟨mw8_385, knyX8_clears, ksyX8_clears, kiyX8_clears, kyX8_clears, ⟨_, rfl, rfl⟩, rfl, by decide +kernel, by decide +kernel, by decide +kernel⟩
/-- RoundedSumsModel.clears -/
theorem v8_385 {E : Ev} {cc : ByteArray} {nL : Nat} {ret : Option FieldType} {R : Room} {cl sl : Nat} {Z : Zt} {pc : Nat} {L st : List Vv} {M : Mm} {N : Nn} {a b : Nat} {x0 : Int} {h : Nat} {P : Mm → Nn → Prop} (hd : decode cc pc = .ok (.invokevirtual 385, 3)) (hct : Nat.ble (ctL st) 8 = true) (hR : Nat.ble (h + 1) R.frames = true ∧ Nat.ble (8 + (3 + 11) + 40 * h) R.locals = true) (hcl : Nat.ble cl R.cells = true ∧ Nat.ble sl R.slots = true) (hc : Ct E yX8_clears cX8_clears 3 (none) (rmH h) [vr (29, a, b), vi x0] M N (qv P)) (k : ∀ M1 N1, P M1 N1 → Go E RX8 cc nL ret R cl sl Z (pc + 3) L (st) M1 N1) : Go E RX8 cc nL ret R cl sl Z (pc) L (vi x0 :: vr (29, a, b) :: st) M N := go_callV (As := [vi x0]) hd l8_385 rfl rfl rfl hct ⟨rfl, rfl⟩ ⟨Nat.le_of_ble_eq_true hR.1, Nat.le_of_ble_eq_true hR.2⟩ hc hcl (fun r M1 N1 h => by obtain ⟨rfl, h⟩ := h; exact k M1 N1 h)
theorem kyX8_multiplies : Cond.code yX8_multiplies cX8_multiplies 11 (none) ∈ BIG := bg6 181 (rfl) rfl
theorem kiyX8_multiplies : Cond.initialized yX8_multiplies.cls ∈ BIG := bg1 9 (by decide +kernel) rfl
theorem knyX8_multiplies : Cond.instanceMethod yX8_multiplies ∈ BIG := bg6 180 (by decide +kernel) rfl
theorem ksyX8_multiplies : Cond.selects yX8_multiplies.cls yX8_multiplies yX8_multiplies ∈ BIG := bgp (q := (yX8_multiplies, 52)) (List.mem_of_getElem? (i := 81) (by decide +kernel)) rfl
theorem mw8_388 : Cond.methodLink RX8 388 yX8_multiplies ∈ BIG := bg6 178 (by decide +kernel) rfl
theorem l8_388 : LkV RX8 388 8 yX8_multiplies cX8_multiplies 11 (none) 3 := ⟨mw8_388, knyX8_multiplies, ksyX8_multiplies, kiyX8_multiplies, kyX8_multiplies, ⟨_, rfl, rfl⟩, rfl, by decide +kernel, by decide +kernel, by decide +kernel⟩
/-- RoundedSumsModel.multiplies -/
theorem v8_388 {E : Ev} {cc : ByteArray} {nL : Nat} {ret : Option FieldType} {R : Room} {cl sl : Nat} {Z : Zt} {pc : Nat} {L st : List Vv} {M : Mm} {N : Nn} {a b : Nat} {x0 : Int} {x1 : Int} {x2 : Int} {h : Nat} {P : Mm → Nn → Prop} (hd : decode cc pc = .ok (.invokevirtual 388, 3)) (hct : Nat.ble (ctL st) 8 = true) (hR : Nat.ble (h + 1) R.frames = true ∧ Nat.ble (8 + (11 + 11) + 40 * h) R.locals = true) (hcl : Nat.ble cl R.cells = true ∧ Nat.ble sl R.slots = true) (hc : Ct E yX8_multiplies cX8_multiplies 11 (none) (rmH h) [vr (29, a, b), vi x0, vi x1, vi x2] M N (qv P)) (k : ∀ M1 N1, P M1 N1 → Go E RX8 cc nL ret R cl sl Z (pc + 3) L (st) M1 N1) : Go E RX8 cc nL ret R cl sl Z (pc) L (vi x2 :: vi x1 :: vi x0 :: vr (29, a, b) :: st) M N := go_callV (As := [vi x0, vi x1, vi x2]) hd l8_388 rfl rfl rfl hct ⟨rfl, rfl⟩ ⟨Nat.le_of_ble_eq_true hR.1, Nat.le_of_ble_eq_true hR.2⟩ hc hcl (fun r M1 N1 h => by obtain ⟨rfl, h⟩ := h; exact k M1 N1 h)
theorem kyX8_sums : Cond.code yX8_sums cX8_sums 7 (none) ∈ BIG := bg6 189 (rfl) rfl
theorem kiyX8_sums : Cond.initialized yX8_sums.cls ∈ BIG := bg1 9 (by decide +kernel) rfl
theorem knyX8_sums : Cond.instanceMethod yX8_sums ∈ BIG := bg6 188 (by decide +kernel) rfl
theorem ksyX8_sums : Cond.selects yX8_sums.cls yX8_sums yX8_sums ∈ BIG := bgp (q := (yX8_sums, 52)) (List.mem_of_getElem? (i := 83) (by decide +kernel)) rfl
theorem mw8_392 : Cond.methodLink RX8 392 yX8_sums ∈ BIG := bg6 186 (by decide +kernel) rfl
theorem l8_392 : LkV RX8 392 8 yX8_sums cX8_sums 7 (none) 4 := ⟨mw8_392, knyX8_sums, ksyX8_sums, kiyX8_sums, kyX8_sums, ⟨_, rfl, rfl⟩, rfl, by decide +kernel, by decide +kernel, by decide +kernel⟩
/-- RoundedSumsModel.sums -/
theorem v8_392 {E : Ev} {cc : ByteArray} {nL : Nat} {ret : Option FieldType} {R : Room} {cl sl : Nat} {Z : Zt} {pc : Nat} {L st : List Vv} {M : Mm} {N : Nn} {a b : Nat} {x0 : Int} {x1 : Int} {x2 : Int} {x3 : Int} {h : Nat} {P : Mm → Nn → Prop} (hd : decode cc pc = .ok (.invokevirtual 392, 3)) (hct : Nat.ble (ctL st) 8 = true) (hR : Nat.ble (h + 1) R.frames = true ∧ Nat.ble (8 + (7 + 11) + 40 * h) R.locals = true) (hcl : Nat.ble cl R.cells = true ∧ Nat.ble sl R.slots = true) (hc : Ct E yX8_sums cX8_sums 7 (none) (rmH h) [vr (29, a, b), vi x0, vi x1, vi x2, vl x3] M N (qv P)) (k : ∀ M1 N1, P M1 N1 → Go E RX8 cc nL ret R cl sl Z (pc + 3) L (st) M1 N1) : Go E RX8 cc nL ret R cl sl Z (pc) L (vl x3 :: vi x2 :: vi x1 :: vi x0 :: vr (29, a, b) :: st) M N := go_callV (As := [vi x0, vi x1, vi x2, vl x3]) hd l8_392 rfl rfl rfl hct ⟨rfl, rfl⟩ ⟨Nat.le_of_ble_eq_true hR.1, Nat.le_of_ble_eq_true hR.2⟩ hc hcl (fun r M1 N1 h => by obtain ⟨rfl, h⟩ := h; exact k M1 N1 h)
theorem kyX8_laysOperand : Cond.code yX8_laysOperand cX8_laysOperand 6 (none) ∈ BIG := bg6 169 (rfl) rfl
theorem kiyX8_laysOperand : Cond.initialized yX8_laysOperand.cls ∈ BIG := bg1 9 (by decide +kernel) rfl
theorem knyX8_laysOperand : Cond.instanceMethod yX8_laysOperand ∈ BIG := bg6 168 (by decide +kernel) rfl
theorem ksyX8_laysOperand : Cond.selects yX8_laysOperand.cls yX8_laysOperand yX8_laysOperand ∈ BIG := bgp (q := (yX8_laysOperand, 52)) (List.mem_of_getElem? (i := 78) (by decide +kernel)) rfl
theorem mw8_396 : Cond.methodLink RX8 396 yX8_laysOperand ∈ BIG := bg6 166 (by decide +kernel) rfl
theorem l8_396 : LkV RX8 396 8 yX8_laysOperand cX8_laysOperand 6 (none) 4 := ⟨mw8_396, knyX8_laysOperand, ksyX8_laysOperand, kiyX8_laysOperand, kyX8_laysOperand, ⟨_, rfl, rfl⟩, rfl, by decide +kernel, by decide +kernel, by decide +kernel⟩
/-- RoundedSumsModel.laysOperand -/
theorem v8_396 {E : Ev} {cc : ByteArray} {nL : Nat} {ret : Option FieldType} {R : Room} {cl sl : Nat} {Z : Zt} {pc : Nat} {L st : List Vv} {M : Mm} {N : Nn} {a b : Nat} {x0 : Int} {x1 : Int} {x2 : Int} {x3 : Int} {h : Nat} {P : Mm → Nn → Prop} (hd : decode cc pc = .ok (.invokevirtual 396, 3)) (hct : Nat.ble (ctL st) 8 = true) (hR : Nat.ble (h + 1) R.frames = true ∧ Nat.ble (8 + (6 + 11) + 40 * h) R.locals = true) (hcl : Nat.ble cl R.cells = true ∧ Nat.ble sl R.slots = true) (hc : Ct E yX8_laysOperand cX8_laysOperand 6 (none) (rmH h) [vr (29, a, b), vi x0, vi x1, vi x2, vi x3] M N (qv P)) (k : ∀ M1 N1, P M1 N1 → Go E RX8 cc nL ret R cl sl Z (pc + 3) L (st) M1 N1) : Go E RX8 cc nL ret R cl sl Z (pc) L (vi x3 :: vi x2 :: vi x1 :: vi x0 :: vr (29, a, b) :: st) M N := go_callV (As := [vi x0, vi x1, vi x2, vi x3]) hd l8_396 rfl rfl rfl hct ⟨rfl, rfl⟩ ⟨Nat.le_of_ble_eq_true hR.1, Nat.le_of_ble_eq_true hR.2⟩ hc hcl (fun r M1 N1 h => by obtain ⟨rfl, h⟩ := h; exact k M1 N1 h)
theorem kyX8_meets : Cond.code yX8_meets cX8_meets 8 ((some .boolean)) ∈ BIG := bg6 205 (rfl) rfl
theorem kiyX8_meets : Cond.initialized yX8_meets.cls ∈ BIG := bg1 9 (by decide +kernel) rfl
theorem ktyX8_meets : Cond.static yX8_meets ∈ BIG := bg6 204 (by decide +kernel) rfl
theorem mw8_402 : Cond.methodLink RX8 402 yX8_meets ∈ BIG := bg6 203 (by decide +kernel) rfl
theorem l8_402 : LkS RX8 402 yX8_meets cX8_meets 8 ((some .boolean)) 4 := ⟨mw8_402, ktyX8_meets, kiyX8_meets, kyX8_meets, by decide +kernel, by decide +kernel, by decide +kernel⟩
/-- RoundedSumsModel.meets -/
theorem v8_402 {E : Ev} {cc : ByteArray} {nL : Nat} {ret : Option FieldType} {R : Room} {cl sl : Nat} {Z : Zt} {pc : Nat} {L st : List Vv} {M : Mm} {N : Nn} {x0 : Int} {x1 : Int} {x2 : Int} {x3 : Int} {h : Nat} {P : Int → Mm → Nn → Prop} (hd : decode cc pc = .ok (.invokestatic 402, 3)) (hct : Nat.ble (ctL st) 8 = true) (hR : Nat.ble (h + 1) R.frames = true ∧ Nat.ble (8 + (8 + 11) + 40 * h) R.locals = true) (hcl : Nat.ble cl R.cells = true ∧ Nat.ble sl R.slots = true) (hc : Ct E yX8_meets cX8_meets 8 ((some .boolean)) (rmH h) [vl x0, vl x1, vl x2, vl x3] M N (qi P)) (k : ∀ r M1 N1, R32 r → P r M1 N1 → Go E RX8 cc nL ret R cl sl Z (pc + 3) L (vi r :: st) M1 N1) : Go E RX8 cc nL ret R cl sl Z (pc) L (vl x3 :: vl x2 :: vl x1 :: vl x0 :: st) M N := go_callS (As := [vl x0, vl x1, vl x2, vl x3]) hd l8_402 rfl rfl hct ⟨rfl, rfl⟩ ⟨Nat.le_of_ble_eq_true hR.1, Nat.le_of_ble_eq_true hR.2⟩ hc hcl (fun r M1 N1 h => by obtain ⟨z, rfl, h1, h⟩ := h; exact k z M1 N1 h1 h)
theorem kyX8_bit : Cond.code yX8_bit cX8_bit 2 ((some .int)) ∈ BIG := bg6 208 (rfl) rfl
theorem kiyX8_bit : Cond.initialized yX8_bit.cls ∈ BIG := bg1 9 (by decide +kernel) rfl
theorem ktyX8_bit : Cond.static yX8_bit ∈ BIG := bg6 207 (by decide +kernel) rfl
theorem mw8_406 : Cond.methodLink RX8 406 yX8_bit ∈ BIG := bg6 206 (by decide +kernel) rfl
theorem l8_406 : LkS RX8 406 yX8_bit cX8_bit 2 ((some .int)) 2 := ⟨mw8_406, ktyX8_bit, kiyX8_bit, kyX8_bit, by decide +kernel, by decide +kernel, by decide +kernel⟩
/-- RoundedSumsModel.bit -/
theorem v8_406 {E : Ev} {cc : ByteArray} {nL : Nat} {ret : Option FieldType} {R : Room} {cl sl : Nat} {Z : Zt} {pc : Nat} {L st : List Vv} {M : Mm} {N : Nn} {x0 : Int} {x1 : Int} {h : Nat} {P : Int → Mm → Nn → Prop} (hd : decode cc pc = .ok (.invokestatic 406, 3)) (hct : Nat.ble (ctL st) 8 = true) (hR : Nat.ble (h + 1) R.frames = true ∧ Nat.ble (8 + (2 + 11) + 40 * h) R.locals = true) (hcl : Nat.ble cl R.cells = true ∧ Nat.ble sl R.slots = true) (hc : Ct E yX8_bit cX8_bit 2 ((some .int)) (rmH h) [vi x0, vi x1] M N (qi P)) (k : ∀ r M1 N1, R32 r → P r M1 N1 → Go E RX8 cc nL ret R cl sl Z (pc + 3) L (vi r :: st) M1 N1) : Go E RX8 cc nL ret R cl sl Z (pc) L (vi x1 :: vi x0 :: st) M N := go_callS (As := [vi x0, vi x1]) hd l8_406 rfl rfl hct ⟨rfl, rfl⟩ ⟨Nat.le_of_ble_eq_true hR.1, Nat.le_of_ble_eq_true hR.2⟩ hc hcl (fun r M1 N1 h => by obtain ⟨z, rfl, h1, h⟩ := h; exact k z M1 N1 h1 h)
theorem kyX8_adds : Cond.code yX8_adds cX8_adds 2 (none) ∈ BIG := bg6 212 (rfl) rfl
theorem kiyX8_adds : Cond.initialized yX8_adds.cls ∈ BIG := bg1 9 (by decide +kernel) rfl
theorem knyX8_adds : Cond.instanceMethod yX8_adds ∈ BIG := bg6 211 (by decide +kernel) rfl
theorem ksyX8_adds : Cond.selects yX8_adds.cls yX8_adds yX8_adds ∈ BIG := bgp (q := (yX8_adds, 52)) (List.mem_of_getElem? (i := 87) (by decide +kernel)) rfl
theorem mw8_410 : Cond.methodLink RX8 410 yX8_adds ∈ BIG := bg6 209 (by decide +kernel) rfl
theorem l8_410 : LkV RX8 410 8 yX8_adds cX8_adds 2 (none) 1 := ⟨mw8_410, knyX8_adds, ksyX8_adds, kiyX8_adds, kyX8_adds, ⟨_, rfl, rfl⟩, rfl, by decide +kernel, by decide +kernel, by decide +kernel⟩
/-- RoundedSumsModel.adds -/
theorem v8_410 {E : Ev} {cc : ByteArray} {nL : Nat} {ret : Option FieldType} {R : Room} {cl sl : Nat} {Z : Zt} {pc : Nat} {L st : List Vv} {M : Mm} {N : Nn} {a b : Nat} {x0 : Int} {h : Nat} {P : Mm → Nn → Prop} (hd : decode cc pc = .ok (.invokevirtual 410, 3)) (hct : Nat.ble (ctL st) 8 = true) (hR : Nat.ble (h + 1) R.frames = true ∧ Nat.ble (8 + (2 + 11) + 40 * h) R.locals = true) (hcl : Nat.ble cl R.cells = true ∧ Nat.ble sl R.slots = true) (hc : Ct E yX8_adds cX8_adds 2 (none) (rmH h) [vr (29, a, b), vi x0] M N (qv P)) (k : ∀ M1 N1, P M1 N1 → Go E RX8 cc nL ret R cl sl Z (pc + 3) L (st) M1 N1) : Go E RX8 cc nL ret R cl sl Z (pc) L (vi x0 :: vr (29, a, b) :: st) M N := go_callV (As := [vi x0]) hd l8_410 rfl rfl rfl hct ⟨rfl, rfl⟩ ⟨Nat.le_of_ble_eq_true hR.1, Nat.le_of_ble_eq_true hR.2⟩ hc hcl (fun r M1 N1 h => by obtain ⟨rfl, h⟩ := h; exact k M1 N1 h)
theorem kyX8_joins : Cond.code yX8_joins cX8_joins 8 (none) ∈ BIG := bg6 216 (rfl) rfl
theorem kiyX8_joins : Cond.initialized yX8_joins.cls ∈ BIG := bg1 9 (by decide +kernel) rfl
theorem knyX8_joins : Cond.instanceMethod yX8_joins ∈ BIG := bg6 215 (by decide +kernel) rfl
theorem ksyX8_joins : Cond.selects yX8_joins.cls yX8_joins yX8_joins ∈ BIG := bgp (q := (yX8_joins, 52)) (List.mem_of_getElem? (i := 88) (by decide +kernel)) rfl
theorem mw8_413 : Cond.methodLink RX8 413 yX8_joins ∈ BIG := bg6 213 (by decide +kernel) rfl
theorem l8_413 : LkV RX8 413 8 yX8_joins cX8_joins 8 (none) 1 := ⟨mw8_413, knyX8_joins, ksyX8_joins, kiyX8_joins, kyX8_joins, ⟨_, rfl, rfl⟩, rfl, by decide +kernel, by decide +kernel, by decide +kernel⟩
/-- RoundedSumsModel.joins -/
theorem v8_413 {E : Ev} {cc : ByteArray} {nL : Nat} {ret : Option FieldType} {R : Room} {cl sl : Nat} {Z : Zt} {pc : Nat} {L st : List Vv} {M : Mm} {N : Nn} {a b : Nat} {x0 : Int} {h : Nat} {P : Mm → Nn → Prop} (hd : decode cc pc = .ok (.invokevirtual 413, 3)) (hct : Nat.ble (ctL st) 8 = true) (hR : Nat.ble (h + 1) R.frames = true ∧ Nat.ble (8 + (8 + 11) + 40 * h) R.locals = true) (hcl : Nat.ble cl R.cells = true ∧ Nat.ble sl R.slots = true) (hc : Ct E yX8_joins cX8_joins 8 (none) (rmH h) [vr (29, a, b), vi x0] M N (qv P)) (k : ∀ M1 N1, P M1 N1 → Go E RX8 cc nL ret R cl sl Z (pc + 3) L (st) M1 N1) : Go E RX8 cc nL ret R cl sl Z (pc) L (vi x0 :: vr (29, a, b) :: st) M N := go_callV (As := [vi x0]) hd l8_413 rfl rfl rfl hct ⟨rfl, rfl⟩ ⟨Nat.le_of_ble_eq_true hR.1, Nat.le_of_ble_eq_true hR.2⟩ hc hcl (fun r M1 N1 h => by obtain ⟨rfl, h⟩ := h; exact k M1 N1 h)
theorem kyX8_laysTimes : Cond.code yX8_laysTimes cX8_laysTimes 2 (none) ∈ BIG := bg6 177 (rfl) rfl
theorem kiyX8_laysTimes : Cond.initialized yX8_laysTimes.cls ∈ BIG := bg1 9 (by decide +kernel) rfl
theorem knyX8_laysTimes : Cond.instanceMethod yX8_laysTimes ∈ BIG := bg6 176 (by decide +kernel) rfl
theorem ksyX8_laysTimes : Cond.selects yX8_laysTimes.cls yX8_laysTimes yX8_laysTimes ∈ BIG := bgp (q := (yX8_laysTimes, 52)) (List.mem_of_getElem? (i := 80) (by decide +kernel)) rfl
theorem mw8_416 : Cond.methodLink RX8 416 yX8_laysTimes ∈ BIG := bg6 174 (by decide +kernel) rfl
theorem l8_416 : LkV RX8 416 8 yX8_laysTimes cX8_laysTimes 2 (none) 1 := ⟨mw8_416, knyX8_laysTimes, ksyX8_laysTimes, kiyX8_laysTimes, kyX8_laysTimes, ⟨_, rfl, rfl⟩, rfl, by decide +kernel, by decide +kernel, by decide +kernel⟩
/-- RoundedSumsModel.laysTimes -/
theorem v8_416 {E : Ev} {cc : ByteArray} {nL : Nat} {ret : Option FieldType} {R : Room} {cl sl : Nat} {Z : Zt} {pc : Nat} {L st : List Vv} {M : Mm} {N : Nn} {a b : Nat} {x0 : Int} {h : Nat} {P : Mm → Nn → Prop} (hd : decode cc pc = .ok (.invokevirtual 416, 3)) (hct : Nat.ble (ctL st) 8 = true) (hR : Nat.ble (h + 1) R.frames = true ∧ Nat.ble (8 + (2 + 11) + 40 * h) R.locals = true) (hcl : Nat.ble cl R.cells = true ∧ Nat.ble sl R.slots = true) (hc : Ct E yX8_laysTimes cX8_laysTimes 2 (none) (rmH h) [vr (29, a, b), vi x0] M N (qv P)) (k : ∀ M1 N1, P M1 N1 → Go E RX8 cc nL ret R cl sl Z (pc + 3) L (st) M1 N1) : Go E RX8 cc nL ret R cl sl Z (pc) L (vi x0 :: vr (29, a, b) :: st) M N := go_callV (As := [vi x0]) hd l8_416 rfl rfl rfl hct ⟨rfl, rfl⟩ ⟨Nat.le_of_ble_eq_true hR.1, Nat.le_of_ble_eq_true hR.2⟩ hc hcl (fun r M1 N1 h => by obtain ⟨rfl, h⟩ := h; exact k M1 N1 h)
theorem kyX8_laysPick : Cond.code yX8_laysPick cX8_laysPick 16 (none) ∈ BIG := bg6 193 (rfl) rfl
theorem kiyX8_laysPick : Cond.initialized yX8_laysPick.cls ∈ BIG := bg1 9 (by decide +kernel) rfl
theorem knyX8_laysPick : Cond.instanceMethod yX8_laysPick ∈ BIG := bg6 192 (by decide +kernel) rfl
theorem ksyX8_laysPick : Cond.selects yX8_laysPick.cls yX8_laysPick yX8_laysPick ∈ BIG := bgp (q := (yX8_laysPick, 52)) (List.mem_of_getElem? (i := 84) (by decide +kernel)) rfl
theorem mw8_419 : Cond.methodLink RX8 419 yX8_laysPick ∈ BIG := bg6 190 (by decide +kernel) rfl
theorem l8_419 : LkV RX8 419 8 yX8_laysPick cX8_laysPick 16 (none) 1 := ⟨mw8_419, knyX8_laysPick, ksyX8_laysPick, kiyX8_laysPick, kyX8_laysPick, ⟨_, rfl, rfl⟩, rfl, by decide +kernel, by decide +kernel, by decide +kernel⟩
/-- RoundedSumsModel.laysPick -/
theorem v8_419 {E : Ev} {cc : ByteArray} {nL : Nat} {ret : Option FieldType} {R : Room} {cl sl : Nat} {Z : Zt} {pc : Nat} {L st : List Vv} {M : Mm} {N : Nn} {a b : Nat} {x0 : Int} {h : Nat} {P : Mm → Nn → Prop} (hd : decode cc pc = .ok (.invokevirtual 419, 3)) (hct : Nat.ble (ctL st) 8 = true) (hR : Nat.ble (h + 1) R.frames = true ∧ Nat.ble (8 + (16 + 11) + 40 * h) R.locals = true) (hcl : Nat.ble cl R.cells = true ∧ Nat.ble sl R.slots = true) (hc : Ct E yX8_laysPick cX8_laysPick 16 (none) (rmH h) [vr (29, a, b), vi x0] M N (qv P)) (k : ∀ M1 N1, P M1 N1 → Go E RX8 cc nL ret R cl sl Z (pc + 3) L (st) M1 N1) : Go E RX8 cc nL ret R cl sl Z (pc) L (vi x0 :: vr (29, a, b) :: st) M N := go_callV (As := [vi x0]) hd l8_419 rfl rfl rfl hct ⟨rfl, rfl⟩ ⟨Nat.le_of_ble_eq_true hR.1, Nat.le_of_ble_eq_true hR.2⟩ hc hcl (fun r M1 N1 h => by obtain ⟨rfl, h⟩ := h; exact k M1 N1 h)
theorem kyX8_laysStep : Cond.code yX8_laysStep cX8_laysStep 4 (none) ∈ BIG := bg6 165 (rfl) rfl
theorem kiyX8_laysStep : Cond.initialized yX8_laysStep.cls ∈ BIG := bg1 9 (by decide +kernel) rfl
theorem knyX8_laysStep : Cond.instanceMethod yX8_laysStep ∈ BIG := bg6 164 (by decide +kernel) rfl
theorem ksyX8_laysStep : Cond.selects yX8_laysStep.cls yX8_laysStep yX8_laysStep ∈ BIG := bgp (q := (yX8_laysStep, 52)) (List.mem_of_getElem? (i := 77) (by decide +kernel)) rfl
theorem mw8_422 : Cond.methodLink RX8 422 yX8_laysStep ∈ BIG := bg6 162 (by decide +kernel) rfl
theorem l8_422 : LkV RX8 422 8 yX8_laysStep cX8_laysStep 4 (none) 1 := ⟨mw8_422, knyX8_laysStep, ksyX8_laysStep, kiyX8_laysStep, kyX8_laysStep, ⟨_, rfl, rfl⟩, rfl, by decide +kernel, by decide +kernel, by decide +kernel⟩
/-- RoundedSumsModel.laysStep -/
theorem v8_422 {E : Ev} {cc : ByteArray} {nL : Nat} {ret : Option FieldType} {R : Room} {cl sl : Nat} {Z : Zt} {pc : Nat} {L st : List Vv} {M : Mm} {N : Nn} {a b : Nat} {x0 : Int} {h : Nat} {P : Mm → Nn → Prop} (hd : decode cc pc = .ok (.invokevirtual 422, 3)) (hct : Nat.ble (ctL st) 8 = true) (hR : Nat.ble (h + 1) R.frames = true ∧ Nat.ble (8 + (4 + 11) + 40 * h) R.locals = true) (hcl : Nat.ble cl R.cells = true ∧ Nat.ble sl R.slots = true) (hc : Ct E yX8_laysStep cX8_laysStep 4 (none) (rmH h) [vr (29, a, b), vi x0] M N (qv P)) (k : ∀ M1 N1, P M1 N1 → Go E RX8 cc nL ret R cl sl Z (pc + 3) L (st) M1 N1) : Go E RX8 cc nL ret R cl sl Z (pc) L (vi x0 :: vr (29, a, b) :: st) M N := go_callV (As := [vi x0]) hd l8_422 rfl rfl rfl hct ⟨rfl, rfl⟩ ⟨Nat.le_of_ble_eq_true hR.1, Nat.le_of_ble_eq_true hR.2⟩ hc hcl (fun r M1 N1 h => by obtain ⟨rfl, h⟩ := h; exact k M1 N1 h)
theorem kyX8_laysFormsBy : Cond.code yX8_laysFormsBy cX8_laysFormsBy 4 (none) ∈ BIG := bg6 139 (rfl) rfl
theorem kiyX8_laysFormsBy : Cond.initialized yX8_laysFormsBy.cls ∈ BIG := bg1 9 (by decide +kernel) rfl
theorem knyX8_laysFormsBy : Cond.instanceMethod yX8_laysFormsBy ∈ BIG := bg6 138 (by decide +kernel) rfl
theorem ksyX8_laysFormsBy : Cond.selects yX8_laysFormsBy.cls yX8_laysFormsBy yX8_laysFormsBy ∈ BIG := bgp (q := (yX8_laysFormsBy, 52)) (List.mem_of_getElem? (i := 72) (by decide +kernel)) rfl
theorem mw8_425 : Cond.methodLink RX8 425 yX8_laysFormsBy ∈ BIG := bg6 136 (by decide +kernel) rfl
theorem l8_425 : LkV RX8 425 8 yX8_laysFormsBy cX8_laysFormsBy 4 (none) 0 := ⟨mw8_425, knyX8_laysFormsBy, ksyX8_laysFormsBy, kiyX8_laysFormsBy, kyX8_laysFormsBy, ⟨_, rfl, rfl⟩, rfl, by decide +kernel, by decide +kernel, by decide +kernel⟩
/-- RoundedSumsModel.laysFormsBy -/
theorem v8_425 {E : Ev} {cc : ByteArray} {nL : Nat} {ret : Option FieldType} {R : Room} {cl sl : Nat} {Z : Zt} {pc : Nat} {L st : List Vv} {M : Mm} {N : Nn} {a b : Nat}  {h : Nat} {P : Mm → Nn → Prop} (hd : decode cc pc = .ok (.invokevirtual 425, 3)) (hct : Nat.ble (ctL st) 8 = true) (hR : Nat.ble (h + 1) R.frames = true ∧ Nat.ble (8 + (4 + 11) + 40 * h) R.locals = true) (hcl : Nat.ble cl R.cells = true ∧ Nat.ble sl R.slots = true) (hc : Ct E yX8_laysFormsBy cX8_laysFormsBy 4 (none) (rmH h) [vr (29, a, b)] M N (qv P)) (k : ∀ M1 N1, P M1 N1 → Go E RX8 cc nL ret R cl sl Z (pc + 3) L (st) M1 N1) : Go E RX8 cc nL ret R cl sl Z (pc) L (vr (29, a, b) :: st) M N := go_callV (As := []) hd l8_425 rfl rfl rfl hct ⟨rfl, rfl⟩ ⟨Nat.le_of_ble_eq_true hR.1, Nat.le_of_ble_eq_true hR.2⟩ hc hcl (fun r M1 N1 h => by obtain ⟨rfl, h⟩ := h; exact k M1 N1 h)
theorem kyX8_rowOf : Cond.code yX8_rowOf cX8_rowOf 3 ((some .int)) ∈ BIG := bg7 60 (rfl) rfl
theorem kiyX8_rowOf : Cond.initialized yX8_rowOf.cls ∈ BIG := bg1 9 (by decide +kernel) rfl
theorem knyX8_rowOf : Cond.instanceMethod yX8_rowOf ∈ BIG := bg7 59 (by decide +kernel) rfl
theorem ksyX8_rowOf : Cond.selects yX8_rowOf.cls yX8_rowOf yX8_rowOf ∈ BIG := bgp (q := (yX8_rowOf, 52)) (List.mem_of_getElem? (i := 99) (by decide +kernel)) rfl
theorem mw8_428 : Cond.methodLink RX8 428 yX8_rowOf ∈ BIG := bg7 57 (by decide +kernel) rfl
theorem l8_428 : LkV RX8 428 8 yX8_rowOf cX8_rowOf 3 ((some .int)) 2 := ⟨mw8_428, knyX8_rowOf, ksyX8_rowOf, kiyX8_rowOf, kyX8_rowOf, ⟨_, rfl, rfl⟩, rfl, by decide +kernel, by decide +kernel, by decide +kernel⟩
/-- RoundedSumsModel.rowOf -/
theorem v8_428 {E : Ev} {cc : ByteArray} {nL : Nat} {ret : Option FieldType} {R : Room} {cl sl : Nat} {Z : Zt} {pc : Nat} {L st : List Vv} {M : Mm} {N : Nn} {a b : Nat} {x0 : Int} {x1 : Int} {h : Nat} {P : Int → Mm → Nn → Prop} (hd : decode cc pc = .ok (.invokevirtual 428, 3)) (hct : Nat.ble (ctL st) 8 = true) (hR : Nat.ble (h + 1) R.frames = true ∧ Nat.ble (8 + (3 + 11) + 40 * h) R.locals = true) (hcl : Nat.ble cl R.cells = true ∧ Nat.ble sl R.slots = true) (hc : Ct E yX8_rowOf cX8_rowOf 3 ((some .int)) (rmH h) [vr (29, a, b), vi x0, vi x1] M N (qi P)) (k : ∀ r M1 N1, R32 r → P r M1 N1 → Go E RX8 cc nL ret R cl sl Z (pc + 3) L (vi r :: st) M1 N1) : Go E RX8 cc nL ret R cl sl Z (pc) L (vi x1 :: vi x0 :: vr (29, a, b) :: st) M N := go_callV (As := [vi x0, vi x1]) hd l8_428 rfl rfl rfl hct ⟨rfl, rfl⟩ ⟨Nat.le_of_ble_eq_true hR.1, Nat.le_of_ble_eq_true hR.2⟩ hc hcl (fun r M1 N1 h => by obtain ⟨z, rfl, h1, h⟩ := h; exact k z M1 N1 h1 h)
theorem kyX8_nothing : Cond.code yX8_nothing cX8_nothing 2 ((some .long)) ∈ BIG := bg7 64 (rfl) rfl
theorem kiyX8_nothing : Cond.initialized yX8_nothing.cls ∈ BIG := bg1 9 (by decide +kernel) rfl
theorem knyX8_nothing : Cond.instanceMethod yX8_nothing ∈ BIG := bg7 63 (by decide +kernel) rfl
theorem ksyX8_nothing : Cond.selects yX8_nothing.cls yX8_nothing yX8_nothing ∈ BIG := bgp (q := (yX8_nothing, 52)) (List.mem_of_getElem? (i := 100) (by decide +kernel)) rfl
theorem mw8_432 : Cond.methodLink RX8 432 yX8_nothing ∈ BIG := bg7 61 (by decide +kernel) rfl
theorem l8_432 : LkV RX8 432 8 yX8_nothing cX8_nothing 2 ((some .long)) 1 := ⟨mw8_432, knyX8_nothing, ksyX8_nothing, kiyX8_nothing, kyX8_nothing, ⟨_, rfl, rfl⟩, rfl, by decide +kernel, by decide +kernel, by decide +kernel⟩
/-- RoundedSumsModel.nothing -/
theorem v8_432 {E : Ev} {cc : ByteArray} {nL : Nat} {ret : Option FieldType} {R : Room} {cl sl : Nat} {Z : Zt} {pc : Nat} {L st : List Vv} {M : Mm} {N : Nn} {a b : Nat} {x0 : Int} {h : Nat} {P : Int → Mm → Nn → Prop} (hd : decode cc pc = .ok (.invokevirtual 432, 3)) (hct : Nat.ble (ctL st) 8 = true) (hR : Nat.ble (h + 1) R.frames = true ∧ Nat.ble (8 + (2 + 11) + 40 * h) R.locals = true) (hcl : Nat.ble cl R.cells = true ∧ Nat.ble sl R.slots = true) (hc : Ct E yX8_nothing cX8_nothing 2 ((some .long)) (rmH h) [vr (29, a, b), vi x0] M N (ql P)) (k : ∀ r M1 N1, R64 r → P r M1 N1 → Go E RX8 cc nL ret R cl sl Z (pc + 3) L (vl r :: st) M1 N1) : Go E RX8 cc nL ret R cl sl Z (pc) L (vi x0 :: vr (29, a, b) :: st) M N := go_callV (As := [vi x0]) hd l8_432 rfl rfl rfl hct ⟨rfl, rfl⟩ ⟨Nat.le_of_ble_eq_true hR.1, Nat.le_of_ble_eq_true hR.2⟩ hc hcl (fun r M1 N1 h => by obtain ⟨z, rfl, h1, h⟩ := h; exact k z M1 N1 h1 h)
theorem kyX8_boundOf : Cond.code yX8_boundOf cX8_boundOf 6 ((some .long)) ∈ BIG := bg7 76 (rfl) rfl
theorem kiyX8_boundOf : Cond.initialized yX8_boundOf.cls ∈ BIG := bg1 9 (by decide +kernel) rfl
theorem knyX8_boundOf : Cond.instanceMethod yX8_boundOf ∈ BIG := bg7 75 (by decide +kernel) rfl
theorem ksyX8_boundOf : Cond.selects yX8_boundOf.cls yX8_boundOf yX8_boundOf ∈ BIG := bgp (q := (yX8_boundOf, 52)) (List.mem_of_getElem? (i := 101) (by decide +kernel)) rfl
theorem mw8_435 : Cond.methodLink RX8 435 yX8_boundOf ∈ BIG := bg7 73 (by decide +kernel) rfl
theorem l8_435 : LkV RX8 435 8 yX8_boundOf cX8_boundOf 6 ((some .long)) 1 := ⟨mw8_435, knyX8_boundOf, ksyX8_boundOf, kiyX8_boundOf, kyX8_boundOf, ⟨_, rfl, rfl⟩, rfl, by decide +kernel, by decide +kernel, by decide +kernel⟩
/-- RoundedSumsModel.boundOf -/
theorem v8_435 {E : Ev} {cc : ByteArray} {nL : Nat} {ret : Option FieldType} {R : Room} {cl sl : Nat} {Z : Zt} {pc : Nat} {L st : List Vv} {M : Mm} {N : Nn} {a b : Nat} {x0 : Int} {h : Nat} {P : Int → Mm → Nn → Prop} (hd : decode cc pc = .ok (.invokevirtual 435, 3)) (hct : Nat.ble (ctL st) 8 = true) (hR : Nat.ble (h + 1) R.frames = true ∧ Nat.ble (8 + (6 + 11) + 40 * h) R.locals = true) (hcl : Nat.ble cl R.cells = true ∧ Nat.ble sl R.slots = true) (hc : Ct E yX8_boundOf cX8_boundOf 6 ((some .long)) (rmH h) [vr (29, a, b), vi x0] M N (ql P)) (k : ∀ r M1 N1, R64 r → P r M1 N1 → Go E RX8 cc nL ret R cl sl Z (pc + 3) L (vl r :: st) M1 N1) : Go E RX8 cc nL ret R cl sl Z (pc) L (vi x0 :: vr (29, a, b) :: st) M N := go_callV (As := [vi x0]) hd l8_435 rfl rfl rfl hct ⟨rfl, rfl⟩ ⟨Nat.le_of_ble_eq_true hR.1, Nat.le_of_ble_eq_true hR.2⟩ hc hcl (fun r M1 N1 h => by obtain ⟨z, rfl, h1, h⟩ := h; exact k z M1 N1 h1 h)
theorem kyX8_partOf : Cond.code yX8_partOf cX8_partOf 6 ((some .long)) ∈ BIG := bg7 92 (rfl) rfl
theorem kiyX8_partOf : Cond.initialized yX8_partOf.cls ∈ BIG := bg1 9 (by decide +kernel) rfl
theorem knyX8_partOf : Cond.instanceMethod yX8_partOf ∈ BIG := bg7 91 (by decide +kernel) rfl
theorem ksyX8_partOf : Cond.selects yX8_partOf.cls yX8_partOf yX8_partOf ∈ BIG := bgp (q := (yX8_partOf, 52)) (List.mem_of_getElem? (i := 102) (by decide +kernel)) rfl
theorem mw8_438 : Cond.methodLink RX8 438 yX8_partOf ∈ BIG := bg7 89 (by decide +kernel) rfl
theorem l8_438 : LkV RX8 438 8 yX8_partOf cX8_partOf 6 ((some .long)) 2 := ⟨mw8_438, knyX8_partOf, ksyX8_partOf, kiyX8_partOf, kyX8_partOf, ⟨_, rfl, rfl⟩, rfl, by decide +kernel, by decide +kernel, by decide +kernel⟩
/-- RoundedSumsModel.partOf -/
theorem v8_438 {E : Ev} {cc : ByteArray} {nL : Nat} {ret : Option FieldType} {R : Room} {cl sl : Nat} {Z : Zt} {pc : Nat} {L st : List Vv} {M : Mm} {N : Nn} {a b : Nat} {x0 : Int} {x1 : Int} {h : Nat} {P : Int → Mm → Nn → Prop} (hd : decode cc pc = .ok (.invokevirtual 438, 3)) (hct : Nat.ble (ctL st) 8 = true) (hR : Nat.ble (h + 1) R.frames = true ∧ Nat.ble (8 + (6 + 11) + 40 * h) R.locals = true) (hcl : Nat.ble cl R.cells = true ∧ Nat.ble sl R.slots = true) (hc : Ct E yX8_partOf cX8_partOf 6 ((some .long)) (rmH h) [vr (29, a, b), vi x0, vi x1] M N (ql P)) (k : ∀ r M1 N1, R64 r → P r M1 N1 → Go E RX8 cc nL ret R cl sl Z (pc + 3) L (vl r :: st) M1 N1) : Go E RX8 cc nL ret R cl sl Z (pc) L (vi x1 :: vi x0 :: vr (29, a, b) :: st) M N := go_callV (As := [vi x0, vi x1]) hd l8_438 rfl rfl rfl hct ⟨rfl, rfl⟩ ⟨Nat.le_of_ble_eq_true hR.1, Nat.le_of_ble_eq_true hR.2⟩ hc hcl (fun r M1 N1 h => by obtain ⟨z, rfl, h1, h⟩ := h; exact k z M1 N1 h1 h)
theorem kyX8_blamed : Cond.code yX8_blamed cX8_blamed 6 ((some .int)) ∈ BIG := bg7 100 (rfl) rfl
theorem kiyX8_blamed : Cond.initialized yX8_blamed.cls ∈ BIG := bg1 9 (by decide +kernel) rfl
theorem knyX8_blamed : Cond.instanceMethod yX8_blamed ∈ BIG := bg7 99 (by decide +kernel) rfl
theorem ksyX8_blamed : Cond.selects yX8_blamed.cls yX8_blamed yX8_blamed ∈ BIG := bgp (q := (yX8_blamed, 52)) (List.mem_of_getElem? (i := 103) (by decide +kernel)) rfl
theorem mw8_442 : Cond.methodLink RX8 442 yX8_blamed ∈ BIG := bg7 97 (by decide +kernel) rfl
theorem l8_442 : LkV RX8 442 8 yX8_blamed cX8_blamed 6 ((some .int)) 1 := ⟨mw8_442, knyX8_blamed, ksyX8_blamed, kiyX8_blamed, kyX8_blamed, ⟨_, rfl, rfl⟩, rfl, by decide +kernel, by decide +kernel, by decide +kernel⟩
/-- RoundedSumsModel.blamed -/
theorem v8_442 {E : Ev} {cc : ByteArray} {nL : Nat} {ret : Option FieldType} {R : Room} {cl sl : Nat} {Z : Zt} {pc : Nat} {L st : List Vv} {M : Mm} {N : Nn} {a b : Nat} {x0 : Int} {h : Nat} {P : Int → Mm → Nn → Prop} (hd : decode cc pc = .ok (.invokevirtual 442, 3)) (hct : Nat.ble (ctL st) 8 = true) (hR : Nat.ble (h + 1) R.frames = true ∧ Nat.ble (8 + (6 + 11) + 40 * h) R.locals = true) (hcl : Nat.ble cl R.cells = true ∧ Nat.ble sl R.slots = true) (hc : Ct E yX8_blamed cX8_blamed 6 ((some .int)) (rmH h) [vr (29, a, b), vi x0] M N (qi P)) (k : ∀ r M1 N1, R32 r → P r M1 N1 → Go E RX8 cc nL ret R cl sl Z (pc + 3) L (vi r :: st) M1 N1) : Go E RX8 cc nL ret R cl sl Z (pc) L (vi x0 :: vr (29, a, b) :: st) M N := go_callV (As := [vi x0]) hd l8_442 rfl rfl rfl hct ⟨rfl, rfl⟩ ⟨Nat.le_of_ble_eq_true hR.1, Nat.le_of_ble_eq_true hR.2⟩ hc hcl (fun r M1 N1 h => by obtain ⟨z, rfl, h1, h⟩ := h; exact k z M1 N1 h1 h)
theorem kyX8_makes : Cond.code yX8_makes cX8_makes 3 (none) ∈ BIG := bg7 117 (rfl) rfl
theorem kiyX8_makes : Cond.initialized yX8_makes.cls ∈ BIG := bg1 9 (by decide +kernel) rfl
theorem knyX8_makes : Cond.instanceMethod yX8_makes ∈ BIG := bg7 116 (by decide +kernel) rfl
theorem ksyX8_makes : Cond.selects yX8_makes.cls yX8_makes yX8_makes ∈ BIG := bgp (q := (yX8_makes, 52)) (List.mem_of_getElem? (i := 105) (by decide +kernel)) rfl
theorem mw8_448 : Cond.methodLink RX8 448 yX8_makes ∈ BIG := bg7 114 (by decide +kernel) rfl
theorem l8_448 : LkV RX8 448 8 yX8_makes cX8_makes 3 (none) 1 := ⟨mw8_448, knyX8_makes, ksyX8_makes, kiyX8_makes, kyX8_makes, ⟨_, rfl, rfl⟩, rfl, by decide +kernel, by decide +kernel, by decide +kernel⟩
/-- RoundedSumsModel.makes -/
theorem v8_448 {E : Ev} {cc : ByteArray} {nL : Nat} {ret : Option FieldType} {R : Room} {cl sl : Nat} {Z : Zt} {pc : Nat} {L st : List Vv} {M : Mm} {N : Nn} {a b : Nat} {x0 : Int} {h : Nat} {P : Mm → Nn → Prop} (hd : decode cc pc = .ok (.invokevirtual 448, 3)) (hct : Nat.ble (ctL st) 8 = true) (hR : Nat.ble (h + 1) R.frames = true ∧ Nat.ble (8 + (3 + 11) + 40 * h) R.locals = true) (hcl : Nat.ble cl R.cells = true ∧ Nat.ble sl R.slots = true) (hc : Ct E yX8_makes cX8_makes 3 (none) (rmH h) [vr (29, a, b), vi x0] M N (qv P)) (k : ∀ M1 N1, P M1 N1 → Go E RX8 cc nL ret R cl sl Z (pc + 3) L (st) M1 N1) : Go E RX8 cc nL ret R cl sl Z (pc) L (vi x0 :: vr (29, a, b) :: st) M N := go_callV (As := [vi x0]) hd l8_448 rfl rfl rfl hct ⟨rfl, rfl⟩ ⟨Nat.le_of_ble_eq_true hR.1, Nat.le_of_ble_eq_true hR.2⟩ hc hcl (fun r M1 N1 h => by obtain ⟨rfl, h⟩ := h; exact k M1 N1 h)
theorem kyX8_worstPiece : Cond.code yX8_worstPiece cX8_worstPiece 3 ((some .int)) ∈ BIG := bg7 125 (rfl) rfl
theorem kiyX8_worstPiece : Cond.initialized yX8_worstPiece.cls ∈ BIG := bg1 9 (by decide +kernel) rfl
theorem knyX8_worstPiece : Cond.instanceMethod yX8_worstPiece ∈ BIG := bg7 124 (by decide +kernel) rfl
theorem ksyX8_worstPiece : Cond.selects yX8_worstPiece.cls yX8_worstPiece yX8_worstPiece ∈ BIG := bgp (q := (yX8_worstPiece, 52)) (List.mem_of_getElem? (i := 107) (by decide +kernel)) rfl
theorem mw8_451 : Cond.methodLink RX8 451 yX8_worstPiece ∈ BIG := bg7 122 (by decide +kernel) rfl
theorem l8_451 : LkV RX8 451 8 yX8_worstPiece cX8_worstPiece 3 ((some .int)) 0 := ⟨mw8_451, knyX8_worstPiece, ksyX8_worstPiece, kiyX8_worstPiece, kyX8_worstPiece, ⟨_, rfl, rfl⟩, rfl, by decide +kernel, by decide +kernel, by decide +kernel⟩
/-- RoundedSumsModel.worstPiece -/
theorem v8_451 {E : Ev} {cc : ByteArray} {nL : Nat} {ret : Option FieldType} {R : Room} {cl sl : Nat} {Z : Zt} {pc : Nat} {L st : List Vv} {M : Mm} {N : Nn} {a b : Nat}  {h : Nat} {P : Int → Mm → Nn → Prop} (hd : decode cc pc = .ok (.invokevirtual 451, 3)) (hct : Nat.ble (ctL st) 8 = true) (hR : Nat.ble (h + 1) R.frames = true ∧ Nat.ble (8 + (3 + 11) + 40 * h) R.locals = true) (hcl : Nat.ble cl R.cells = true ∧ Nat.ble sl R.slots = true) (hc : Ct E yX8_worstPiece cX8_worstPiece 3 ((some .int)) (rmH h) [vr (29, a, b)] M N (qi P)) (k : ∀ r M1 N1, R32 r → P r M1 N1 → Go E RX8 cc nL ret R cl sl Z (pc + 3) L (vi r :: st) M1 N1) : Go E RX8 cc nL ret R cl sl Z (pc) L (vr (29, a, b) :: st) M N := go_callV (As := []) hd l8_451 rfl rfl rfl hct ⟨rfl, rfl⟩ ⟨Nat.le_of_ble_eq_true hR.1, Nat.le_of_ble_eq_true hR.2⟩ hc hcl (fun r M1 N1 h => by obtain ⟨z, rfl, h1, h⟩ := h; exact k z M1 N1 h1 h)
theorem kyX8_takesRanges : Cond.code yX8_takesRanges cX8_takesRanges 3 (none) ∈ BIG := bg7 129 (rfl) rfl
theorem kiyX8_takesRanges : Cond.initialized yX8_takesRanges.cls ∈ BIG := bg1 9 (by decide +kernel) rfl
theorem knyX8_takesRanges : Cond.instanceMethod yX8_takesRanges ∈ BIG := bg7 128 (by decide +kernel) rfl
theorem ksyX8_takesRanges : Cond.selects yX8_takesRanges.cls yX8_takesRanges yX8_takesRanges ∈ BIG := bgp (q := (yX8_takesRanges, 52)) (List.mem_of_getElem? (i := 108) (by decide +kernel)) rfl
theorem mw8_454 : Cond.methodLink RX8 454 yX8_takesRanges ∈ BIG := bg7 126 (by decide +kernel) rfl
theorem l8_454 : LkV RX8 454 8 yX8_takesRanges cX8_takesRanges 3 (none) 1 := ⟨mw8_454, knyX8_takesRanges, ksyX8_takesRanges, kiyX8_takesRanges, kyX8_takesRanges, ⟨_, rfl, rfl⟩, rfl, by decide +kernel, by decide +kernel, by decide +kernel⟩
/-- RoundedSumsModel.takesRanges -/
theorem v8_454 {E : Ev} {cc : ByteArray} {nL : Nat} {ret : Option FieldType} {R : Room} {cl sl : Nat} {Z : Zt} {pc : Nat} {L st : List Vv} {M : Mm} {N : Nn} {a b : Nat} {x0 : Int} {h : Nat} {P : Mm → Nn → Prop} (hd : decode cc pc = .ok (.invokevirtual 454, 3)) (hct : Nat.ble (ctL st) 8 = true) (hR : Nat.ble (h + 1) R.frames = true ∧ Nat.ble (8 + (3 + 11) + 40 * h) R.locals = true) (hcl : Nat.ble cl R.cells = true ∧ Nat.ble sl R.slots = true) (hc : Ct E yX8_takesRanges cX8_takesRanges 3 (none) (rmH h) [vr (29, a, b), vi x0] M N (qv P)) (k : ∀ M1 N1, P M1 N1 → Go E RX8 cc nL ret R cl sl Z (pc + 3) L (st) M1 N1) : Go E RX8 cc nL ret R cl sl Z (pc) L (vi x0 :: vr (29, a, b) :: st) M N := go_callV (As := [vi x0]) hd l8_454 rfl rfl rfl hct ⟨rfl, rfl⟩ ⟨Nat.le_of_ble_eq_true hR.1, Nat.le_of_ble_eq_true hR.2⟩ hc hcl (fun r M1 N1 h => by obtain ⟨rfl, h⟩ := h; exact k M1 N1 h)
theorem kyX8_widest : Cond.code yX8_widest cX8_widest 4 ((some .int)) ∈ BIG := bg7 133 (rfl) rfl
theorem kiyX8_widest : Cond.initialized yX8_widest.cls ∈ BIG := bg1 9 (by decide +kernel) rfl
theorem knyX8_widest : Cond.instanceMethod yX8_widest ∈ BIG := bg7 132 (by decide +kernel) rfl
theorem ksyX8_widest : Cond.selects yX8_widest.cls yX8_widest yX8_widest ∈ BIG := bgp (q := (yX8_widest, 52)) (List.mem_of_getElem? (i := 109) (by decide +kernel)) rfl
theorem mw8_457 : Cond.methodLink RX8 457 yX8_widest ∈ BIG := bg7 130 (by decide +kernel) rfl
theorem l8_457 : LkV RX8 457 8 yX8_widest cX8_widest 4 ((some .int)) 0 := ⟨mw8_457, knyX8_widest, ksyX8_widest, kiyX8_widest, kyX8_widest, ⟨_, rfl, rfl⟩, rfl, by decide +kernel, by decide +kernel, by decide +kernel⟩
/-- RoundedSumsModel.widest -/
theorem v8_457 {E : Ev} {cc : ByteArray} {nL : Nat} {ret : Option FieldType} {R : Room} {cl sl : Nat} {Z : Zt} {pc : Nat} {L st : List Vv} {M : Mm} {N : Nn} {a b : Nat}  {h : Nat} {P : Int → Mm → Nn → Prop} (hd : decode cc pc = .ok (.invokevirtual 457, 3)) (hct : Nat.ble (ctL st) 8 = true) (hR : Nat.ble (h + 1) R.frames = true ∧ Nat.ble (8 + (4 + 11) + 40 * h) R.locals = true) (hcl : Nat.ble cl R.cells = true ∧ Nat.ble sl R.slots = true) (hc : Ct E yX8_widest cX8_widest 4 ((some .int)) (rmH h) [vr (29, a, b)] M N (qi P)) (k : ∀ r M1 N1, R32 r → P r M1 N1 → Go E RX8 cc nL ret R cl sl Z (pc + 3) L (vi r :: st) M1 N1) : Go E RX8 cc nL ret R cl sl Z (pc) L (vr (29, a, b) :: st) M N := go_callV (As := []) hd l8_457 rfl rfl rfl hct ⟨rfl, rfl⟩ ⟨Nat.le_of_ble_eq_true hR.1, Nat.le_of_ble_eq_true hR.2⟩ hc hcl (fun r M1 N1 h => by obtain ⟨z, rfl, h1, h⟩ := h; exact k z M1 N1 h1 h)
theorem kyX8_begins : Cond.code yX8_begins cX8_begins 3 (none) ∈ BIG := bg7 113 (rfl) rfl
theorem kiyX8_begins : Cond.initialized yX8_begins.cls ∈ BIG := bg1 9 (by decide +kernel) rfl
theorem knyX8_begins : Cond.instanceMethod yX8_begins ∈ BIG := bg7 112 (by decide +kernel) rfl
theorem ksyX8_begins : Cond.selects yX8_begins.cls yX8_begins yX8_begins ∈ BIG := bgp (q := (yX8_begins, 52)) (List.mem_of_getElem? (i := 104) (by decide +kernel)) rfl
theorem mw8_462 : Cond.methodLink RX8 462 yX8_begins ∈ BIG := bg7 110 (by decide +kernel) rfl
theorem l8_462 : LkV RX8 462 8 yX8_begins cX8_begins 3 (none) 1 := ⟨mw8_462, knyX8_begins, ksyX8_begins, kiyX8_begins, kyX8_begins, ⟨_, rfl, rfl⟩, rfl, by decide +kernel, by decide +kernel, by decide +kernel⟩
/-- RoundedSumsModel.begins -/
theorem v8_462 {E : Ev} {cc : ByteArray} {nL : Nat} {ret : Option FieldType} {R : Room} {cl sl : Nat} {Z : Zt} {pc : Nat} {L st : List Vv} {M : Mm} {N : Nn} {a b : Nat} {x0 : Int} {h : Nat} {P : Mm → Nn → Prop} (hd : decode cc pc = .ok (.invokevirtual 462, 3)) (hct : Nat.ble (ctL st) 8 = true) (hR : Nat.ble (h + 1) R.frames = true ∧ Nat.ble (8 + (3 + 11) + 40 * h) R.locals = true) (hcl : Nat.ble cl R.cells = true ∧ Nat.ble sl R.slots = true) (hc : Ct E yX8_begins cX8_begins 3 (none) (rmH h) [vr (29, a, b), vi x0] M N (qv P)) (k : ∀ M1 N1, P M1 N1 → Go E RX8 cc nL ret R cl sl Z (pc + 3) L (st) M1 N1) : Go E RX8 cc nL ret R cl sl Z (pc) L (vi x0 :: vr (29, a, b) :: st) M N := go_callV (As := [vi x0]) hd l8_462 rfl rfl rfl hct ⟨rfl, rfl⟩ ⟨Nat.le_of_ble_eq_true hR.1, Nat.le_of_ble_eq_true hR.2⟩ hc hcl (fun r M1 N1 h => by obtain ⟨rfl, h⟩ := h; exact k M1 N1 h)
theorem kyX8_splitsOnce : Cond.code yX8_splitsOnce cX8_splitsOnce 5 ((some .boolean)) ∈ BIG := bg7 121 (rfl) rfl
theorem kiyX8_splitsOnce : Cond.initialized yX8_splitsOnce.cls ∈ BIG := bg1 9 (by decide +kernel) rfl
theorem knyX8_splitsOnce : Cond.instanceMethod yX8_splitsOnce ∈ BIG := bg7 120 (by decide +kernel) rfl
theorem ksyX8_splitsOnce : Cond.selects yX8_splitsOnce.cls yX8_splitsOnce yX8_splitsOnce ∈ BIG := bgp (q := (yX8_splitsOnce, 52)) (List.mem_of_getElem? (i := 106) (by decide +kernel)) rfl
theorem mw8_465 : Cond.methodLink RX8 465 yX8_splitsOnce ∈ BIG := bg7 118 (by decide +kernel) rfl
theorem l8_465 : LkV RX8 465 8 yX8_splitsOnce cX8_splitsOnce 5 ((some .boolean)) 1 := ⟨mw8_465, knyX8_splitsOnce, ksyX8_splitsOnce, kiyX8_splitsOnce, kyX8_splitsOnce, ⟨_, rfl, rfl⟩, rfl, by decide +kernel, by decide +kernel, by decide +kernel⟩
/-- RoundedSumsModel.splitsOnce -/
theorem v8_465 {E : Ev} {cc : ByteArray} {nL : Nat} {ret : Option FieldType} {R : Room} {cl sl : Nat} {Z : Zt} {pc : Nat} {L st : List Vv} {M : Mm} {N : Nn} {a b : Nat} {x0 : Int} {h : Nat} {P : Int → Mm → Nn → Prop} (hd : decode cc pc = .ok (.invokevirtual 465, 3)) (hct : Nat.ble (ctL st) 8 = true) (hR : Nat.ble (h + 1) R.frames = true ∧ Nat.ble (8 + (5 + 11) + 40 * h) R.locals = true) (hcl : Nat.ble cl R.cells = true ∧ Nat.ble sl R.slots = true) (hc : Ct E yX8_splitsOnce cX8_splitsOnce 5 ((some .boolean)) (rmH h) [vr (29, a, b), vi x0] M N (qi P)) (k : ∀ r M1 N1, R32 r → P r M1 N1 → Go E RX8 cc nL ret R cl sl Z (pc + 3) L (vi r :: st) M1 N1) : Go E RX8 cc nL ret R cl sl Z (pc) L (vi x0 :: vr (29, a, b) :: st) M N := go_callV (As := [vi x0]) hd l8_465 rfl rfl rfl hct ⟨rfl, rfl⟩ ⟨Nat.le_of_ble_eq_true hR.1, Nat.le_of_ble_eq_true hR.2⟩ hc hcl (fun r M1 N1 h => by obtain ⟨z, rfl, h1, h⟩ := h; exact k z M1 N1 h1 h)
theorem kyX8_draws : Cond.code yX8_draws cX8_draws 2 ((some .int)) ∈ BIG := bg7 159 (rfl) rfl
theorem kiyX8_draws : Cond.initialized yX8_draws.cls ∈ BIG := bg1 9 (by decide +kernel) rfl
theorem knyX8_draws : Cond.instanceMethod yX8_draws ∈ BIG := bg7 158 (by decide +kernel) rfl
theorem ksyX8_draws : Cond.selects yX8_draws.cls yX8_draws yX8_draws ∈ BIG := bgp (q := (yX8_draws, 52)) (List.mem_of_getElem? (i := 113) (by decide +kernel)) rfl
theorem mw8_472 : Cond.methodLink RX8 472 yX8_draws ∈ BIG := bg7 156 (by decide +kernel) rfl
theorem l8_472 : LkV RX8 472 8 yX8_draws cX8_draws 2 ((some .int)) 1 := ⟨mw8_472, knyX8_draws, ksyX8_draws, kiyX8_draws, kyX8_draws, ⟨_, rfl, rfl⟩, rfl, by decide +kernel, by decide +kernel, by decide +kernel⟩
/-- RoundedSumsModel.draws -/
theorem v8_472 {E : Ev} {cc : ByteArray} {nL : Nat} {ret : Option FieldType} {R : Room} {cl sl : Nat} {Z : Zt} {pc : Nat} {L st : List Vv} {M : Mm} {N : Nn} {a b : Nat} {x0 : Int} {h : Nat} {P : Int → Mm → Nn → Prop} (hd : decode cc pc = .ok (.invokevirtual 472, 3)) (hct : Nat.ble (ctL st) 8 = true) (hR : Nat.ble (h + 1) R.frames = true ∧ Nat.ble (8 + (2 + 11) + 40 * h) R.locals = true) (hcl : Nat.ble cl R.cells = true ∧ Nat.ble sl R.slots = true) (hc : Ct E yX8_draws cX8_draws 2 ((some .int)) (rmH h) [vr (29, a, b), vi x0] M N (qi P)) (k : ∀ r M1 N1, R32 r → P r M1 N1 → Go E RX8 cc nL ret R cl sl Z (pc + 3) L (vi r :: st) M1 N1) : Go E RX8 cc nL ret R cl sl Z (pc) L (vi x0 :: vr (29, a, b) :: st) M N := go_callV (As := [vi x0]) hd l8_472 rfl rfl rfl hct ⟨rfl, rfl⟩ ⟨Nat.le_of_ble_eq_true hR.1, Nat.le_of_ble_eq_true hR.2⟩ hc hcl (fun r M1 N1 h => by obtain ⟨z, rfl, h1, h⟩ := h; exact k z M1 N1 h1 h)
theorem kyX8_errorAt : Cond.code yX8_errorAt cX8_errorAt 2 ((some .long)) ∈ BIG := bg7 168 (rfl) rfl
theorem kiyX8_errorAt : Cond.initialized yX8_errorAt.cls ∈ BIG := bg1 9 (by decide +kernel) rfl
theorem knyX8_errorAt : Cond.instanceMethod yX8_errorAt ∈ BIG := bg7 167 (by decide +kernel) rfl
theorem ksyX8_errorAt : Cond.selects yX8_errorAt.cls yX8_errorAt yX8_errorAt ∈ BIG := bgp (q := (yX8_errorAt, 52)) (List.mem_of_getElem? (i := 115) (by decide +kernel)) rfl
theorem mw8_475 : Cond.methodLink RX8 475 yX8_errorAt ∈ BIG := bg7 165 (by decide +kernel) rfl
theorem l8_475 : LkV RX8 475 8 yX8_errorAt cX8_errorAt 2 ((some .long)) 1 := ⟨mw8_475, knyX8_errorAt, ksyX8_errorAt, kiyX8_errorAt, kyX8_errorAt, ⟨_, rfl, rfl⟩, rfl, by decide +kernel, by decide +kernel, by decide +kernel⟩
/-- RoundedSumsModel.errorAt -/
theorem v8_475 {E : Ev} {cc : ByteArray} {nL : Nat} {ret : Option FieldType} {R : Room} {cl sl : Nat} {Z : Zt} {pc : Nat} {L st : List Vv} {M : Mm} {N : Nn} {a b : Nat} {x0 : Int} {h : Nat} {P : Int → Mm → Nn → Prop} (hd : decode cc pc = .ok (.invokevirtual 475, 3)) (hct : Nat.ble (ctL st) 8 = true) (hR : Nat.ble (h + 1) R.frames = true ∧ Nat.ble (8 + (2 + 11) + 40 * h) R.locals = true) (hcl : Nat.ble cl R.cells = true ∧ Nat.ble sl R.slots = true) (hc : Ct E yX8_errorAt cX8_errorAt 2 ((some .long)) (rmH h) [vr (29, a, b), vi x0] M N (ql P)) (k : ∀ r M1 N1, R64 r → P r M1 N1 → Go E RX8 cc nL ret R cl sl Z (pc + 3) L (vl r :: st) M1 N1) : Go E RX8 cc nL ret R cl sl Z (pc) L (vi x0 :: vr (29, a, b) :: st) M N := go_callV (As := [vi x0]) hd l8_475 rfl rfl rfl hct ⟨rfl, rfl⟩ ⟨Nat.le_of_ble_eq_true hR.1, Nat.le_of_ble_eq_true hR.2⟩ hc hcl (fun r M1 N1 h => by obtain ⟨z, rfl, h1, h⟩ := h; exact k z M1 N1 h1 h)
theorem kyX8_isMoved : Cond.code yX8_isMoved cX8_isMoved 6 ((some .boolean)) ∈ BIG := bg7 172 (rfl) rfl
theorem kiyX8_isMoved : Cond.initialized yX8_isMoved.cls ∈ BIG := bg1 9 (by decide +kernel) rfl
theorem knyX8_isMoved : Cond.instanceMethod yX8_isMoved ∈ BIG := bg7 171 (by decide +kernel) rfl
theorem ksyX8_isMoved : Cond.selects yX8_isMoved.cls yX8_isMoved yX8_isMoved ∈ BIG := bgp (q := (yX8_isMoved, 52)) (List.mem_of_getElem? (i := 116) (by decide +kernel)) rfl
theorem mw8_478 : Cond.methodLink RX8 478 yX8_isMoved ∈ BIG := bg7 169 (by decide +kernel) rfl
theorem l8_478 : LkV RX8 478 8 yX8_isMoved cX8_isMoved 6 ((some .boolean)) 4 := ⟨mw8_478, knyX8_isMoved, ksyX8_isMoved, kiyX8_isMoved, kyX8_isMoved, ⟨_, rfl, rfl⟩, rfl, by decide +kernel, by decide +kernel, by decide +kernel⟩
/-- RoundedSumsModel.isMoved -/
theorem v8_478 {E : Ev} {cc : ByteArray} {nL : Nat} {ret : Option FieldType} {R : Room} {cl sl : Nat} {Z : Zt} {pc : Nat} {L st : List Vv} {M : Mm} {N : Nn} {a b : Nat} {x0 : Int} {x1 : Int} {x2 : Int} {x3 : Int} {h : Nat} {P : Int → Mm → Nn → Prop} (hd : decode cc pc = .ok (.invokevirtual 478, 3)) (hct : Nat.ble (ctL st) 8 = true) (hR : Nat.ble (h + 1) R.frames = true ∧ Nat.ble (8 + (6 + 11) + 40 * h) R.locals = true) (hcl : Nat.ble cl R.cells = true ∧ Nat.ble sl R.slots = true) (hc : Ct E yX8_isMoved cX8_isMoved 6 ((some .boolean)) (rmH h) [vr (29, a, b), vi x0, vi x1, vi x2, vl x3] M N (qi P)) (k : ∀ r M1 N1, R32 r → P r M1 N1 → Go E RX8 cc nL ret R cl sl Z (pc + 3) L (vi r :: st) M1 N1) : Go E RX8 cc nL ret R cl sl Z (pc) L (vl x3 :: vi x2 :: vi x1 :: vi x0 :: vr (29, a, b) :: st) M N := go_callV (As := [vi x0, vi x1, vi x2, vl x3]) hd l8_478 rfl rfl rfl hct ⟨rfl, rfl⟩ ⟨Nat.le_of_ble_eq_true hR.1, Nat.le_of_ble_eq_true hR.2⟩ hc hcl (fun r M1 N1 h => by obtain ⟨z, rfl, h1, h⟩ := h; exact k z M1 N1 h1 h)
theorem kyX8_drawsPoint : Cond.code yX8_drawsPoint cX8_drawsPoint 2 (none) ∈ BIG := bg7 155 (rfl) rfl
theorem kiyX8_drawsPoint : Cond.initialized yX8_drawsPoint.cls ∈ BIG := bg1 9 (by decide +kernel) rfl
theorem knyX8_drawsPoint : Cond.instanceMethod yX8_drawsPoint ∈ BIG := bg7 154 (by decide +kernel) rfl
theorem ksyX8_drawsPoint : Cond.selects yX8_drawsPoint.cls yX8_drawsPoint yX8_drawsPoint ∈ BIG := bgp (q := (yX8_drawsPoint, 52)) (List.mem_of_getElem? (i := 112) (by decide +kernel)) rfl
theorem mw8_486 : Cond.methodLink RX8 486 yX8_drawsPoint ∈ BIG := bg7 152 (by decide +kernel) rfl
theorem l8_486 : LkV RX8 486 8 yX8_drawsPoint cX8_drawsPoint 2 (none) 0 := ⟨mw8_486, knyX8_drawsPoint, ksyX8_drawsPoint, kiyX8_drawsPoint, kyX8_drawsPoint, ⟨_, rfl, rfl⟩, rfl, by decide +kernel, by decide +kernel, by decide +kernel⟩
/-- RoundedSumsModel.drawsPoint -/
theorem v8_486 {E : Ev} {cc : ByteArray} {nL : Nat} {ret : Option FieldType} {R : Room} {cl sl : Nat} {Z : Zt} {pc : Nat} {L st : List Vv} {M : Mm} {N : Nn} {a b : Nat}  {h : Nat} {P : Mm → Nn → Prop} (hd : decode cc pc = .ok (.invokevirtual 486, 3)) (hct : Nat.ble (ctL st) 8 = true) (hR : Nat.ble (h + 1) R.frames = true ∧ Nat.ble (8 + (2 + 11) + 40 * h) R.locals = true) (hcl : Nat.ble cl R.cells = true ∧ Nat.ble sl R.slots = true) (hc : Ct E yX8_drawsPoint cX8_drawsPoint 2 (none) (rmH h) [vr (29, a, b)] M N (qv P)) (k : ∀ M1 N1, P M1 N1 → Go E RX8 cc nL ret R cl sl Z (pc + 3) L (st) M1 N1) : Go E RX8 cc nL ret R cl sl Z (pc) L (vr (29, a, b) :: st) M N := go_callV (As := []) hd l8_486 rfl rfl rfl hct ⟨rfl, rfl⟩ ⟨Nat.le_of_ble_eq_true hR.1, Nat.le_of_ble_eq_true hR.2⟩ hc hcl (fun r M1 N1 h => by obtain ⟨rfl, h⟩ := h; exact k M1 N1 h)
theorem kyX8_climbsOnce : Cond.code yX8_climbsOnce cX8_climbsOnce 6 ((some .boolean)) ∈ BIG := bg7 164 (rfl) rfl
theorem kiyX8_climbsOnce : Cond.initialized yX8_climbsOnce.cls ∈ BIG := bg1 9 (by decide +kernel) rfl
theorem knyX8_climbsOnce : Cond.instanceMethod yX8_climbsOnce ∈ BIG := bg7 163 (by decide +kernel) rfl
theorem ksyX8_climbsOnce : Cond.selects yX8_climbsOnce.cls yX8_climbsOnce yX8_climbsOnce ∈ BIG := bgp (q := (yX8_climbsOnce, 52)) (List.mem_of_getElem? (i := 114) (by decide +kernel)) rfl
theorem mw8_489 : Cond.methodLink RX8 489 yX8_climbsOnce ∈ BIG := bg7 161 (by decide +kernel) rfl
theorem l8_489 : LkV RX8 489 8 yX8_climbsOnce cX8_climbsOnce 6 ((some .boolean)) 1 := ⟨mw8_489, knyX8_climbsOnce, ksyX8_climbsOnce, kiyX8_climbsOnce, kyX8_climbsOnce, ⟨_, rfl, rfl⟩, rfl, by decide +kernel, by decide +kernel, by decide +kernel⟩
/-- RoundedSumsModel.climbsOnce -/
theorem v8_489 {E : Ev} {cc : ByteArray} {nL : Nat} {ret : Option FieldType} {R : Room} {cl sl : Nat} {Z : Zt} {pc : Nat} {L st : List Vv} {M : Mm} {N : Nn} {a b : Nat} {x0 : Int} {h : Nat} {P : Int → Mm → Nn → Prop} (hd : decode cc pc = .ok (.invokevirtual 489, 3)) (hct : Nat.ble (ctL st) 8 = true) (hR : Nat.ble (h + 1) R.frames = true ∧ Nat.ble (8 + (6 + 11) + 40 * h) R.locals = true) (hcl : Nat.ble cl R.cells = true ∧ Nat.ble sl R.slots = true) (hc : Ct E yX8_climbsOnce cX8_climbsOnce 6 ((some .boolean)) (rmH h) [vr (29, a, b), vi x0] M N (qi P)) (k : ∀ r M1 N1, R32 r → P r M1 N1 → Go E RX8 cc nL ret R cl sl Z (pc + 3) L (vi r :: st) M1 N1) : Go E RX8 cc nL ret R cl sl Z (pc) L (vi x0 :: vr (29, a, b) :: st) M N := go_callV (As := [vi x0]) hd l8_489 rfl rfl rfl hct ⟨rfl, rfl⟩ ⟨Nat.le_of_ble_eq_true hR.1, Nat.le_of_ble_eq_true hR.2⟩ hc hcl (fun r M1 N1 h => by obtain ⟨z, rfl, h1, h⟩ := h; exact k z M1 N1 h1 h)
theorem kyX8_isClimb : Cond.code yX8_isClimb cX8_isClimb 3 ((some .boolean)) ∈ BIG := bg7 145 (rfl) rfl
theorem kiyX8_isClimb : Cond.initialized yX8_isClimb.cls ∈ BIG := bg1 9 (by decide +kernel) rfl
theorem knyX8_isClimb : Cond.instanceMethod yX8_isClimb ∈ BIG := bg7 144 (by decide +kernel) rfl
theorem ksyX8_isClimb : Cond.selects yX8_isClimb.cls yX8_isClimb yX8_isClimb ∈ BIG := bgp (q := (yX8_isClimb, 52)) (List.mem_of_getElem? (i := 110) (by decide +kernel)) rfl
theorem mw8_496 : Cond.methodLink RX8 496 yX8_isClimb ∈ BIG := bg7 142 (by decide +kernel) rfl
theorem l8_496 : LkV RX8 496 8 yX8_isClimb cX8_isClimb 3 ((some .boolean)) 2 := ⟨mw8_496, knyX8_isClimb, ksyX8_isClimb, kiyX8_isClimb, kyX8_isClimb, ⟨_, rfl, rfl⟩, rfl, by decide +kernel, by decide +kernel, by decide +kernel⟩
/-- RoundedSumsModel.isClimb -/
theorem v8_496 {E : Ev} {cc : ByteArray} {nL : Nat} {ret : Option FieldType} {R : Room} {cl sl : Nat} {Z : Zt} {pc : Nat} {L st : List Vv} {M : Mm} {N : Nn} {a b : Nat} {x0 : Int} {x1 : Int} {h : Nat} {P : Int → Mm → Nn → Prop} (hd : decode cc pc = .ok (.invokevirtual 496, 3)) (hct : Nat.ble (ctL st) 8 = true) (hR : Nat.ble (h + 1) R.frames = true ∧ Nat.ble (8 + (3 + 11) + 40 * h) R.locals = true) (hcl : Nat.ble cl R.cells = true ∧ Nat.ble sl R.slots = true) (hc : Ct E yX8_isClimb cX8_isClimb 3 ((some .boolean)) (rmH h) [vr (29, a, b), vi x0, vi x1] M N (qi P)) (k : ∀ r M1 N1, R32 r → P r M1 N1 → Go E RX8 cc nL ret R cl sl Z (pc + 3) L (vi r :: st) M1 N1) : Go E RX8 cc nL ret R cl sl Z (pc) L (vi x1 :: vi x0 :: vr (29, a, b) :: st) M N := go_callV (As := [vi x0, vi x1]) hd l8_496 rfl rfl rfl hct ⟨rfl, rfl⟩ ⟨Nat.le_of_ble_eq_true hR.1, Nat.le_of_ble_eq_true hR.2⟩ hc hcl (fun r M1 N1 h => by obtain ⟨z, rfl, h1, h⟩ := h; exact k z M1 N1 h1 h)
theorem kyX8_climbsAll : Cond.code yX8_climbsAll cX8_climbsAll 9 (none) ∈ BIG := bg7 151 (rfl) rfl
theorem kiyX8_climbsAll : Cond.initialized yX8_climbsAll.cls ∈ BIG := bg1 9 (by decide +kernel) rfl
theorem knyX8_climbsAll : Cond.instanceMethod yX8_climbsAll ∈ BIG := bg7 150 (by decide +kernel) rfl
theorem ksyX8_climbsAll : Cond.selects yX8_climbsAll.cls yX8_climbsAll yX8_climbsAll ∈ BIG := bgp (q := (yX8_climbsAll, 52)) (List.mem_of_getElem? (i := 111) (by decide +kernel)) rfl
theorem mw8_499 : Cond.methodLink RX8 499 yX8_climbsAll ∈ BIG := bg7 148 (by decide +kernel) rfl
theorem l8_499 : LkV RX8 499 8 yX8_climbsAll cX8_climbsAll 9 (none) 3 := ⟨mw8_499, knyX8_climbsAll, ksyX8_climbsAll, kiyX8_climbsAll, kyX8_climbsAll, ⟨_, rfl, rfl⟩, rfl, by decide +kernel, by decide +kernel, by decide +kernel⟩
/-- RoundedSumsModel.climbsAll -/
theorem v8_499 {E : Ev} {cc : ByteArray} {nL : Nat} {ret : Option FieldType} {R : Room} {cl sl : Nat} {Z : Zt} {pc : Nat} {L st : List Vv} {M : Mm} {N : Nn} {a b : Nat} {x0 : Int} {x1 : Int} {x2 : Int} {h : Nat} {P : Mm → Nn → Prop} (hd : decode cc pc = .ok (.invokevirtual 499, 3)) (hct : Nat.ble (ctL st) 8 = true) (hR : Nat.ble (h + 1) R.frames = true ∧ Nat.ble (8 + (9 + 11) + 40 * h) R.locals = true) (hcl : Nat.ble cl R.cells = true ∧ Nat.ble sl R.slots = true) (hc : Ct E yX8_climbsAll cX8_climbsAll 9 (none) (rmH h) [vr (29, a, b), vi x0, vi x1, vi x2] M N (qv P)) (k : ∀ M1 N1, P M1 N1 → Go E RX8 cc nL ret R cl sl Z (pc + 3) L (st) M1 N1) : Go E RX8 cc nL ret R cl sl Z (pc) L (vi x2 :: vi x1 :: vi x0 :: vr (29, a, b) :: st) M N := go_callV (As := [vi x0, vi x1, vi x2]) hd l8_499 rfl rfl rfl hct ⟨rfl, rfl⟩ ⟨Nat.le_of_ble_eq_true hR.1, Nat.le_of_ble_eq_true hR.2⟩ hc hcl (fun r M1 N1 h => by obtain ⟨rfl, h⟩ := h; exact k M1 N1 h)
theorem kyX8_nextPoint : Cond.code yX8_nextPoint cX8_nextPoint 2 ((some .boolean)) ∈ BIG := bg7 185 (rfl) rfl
theorem kiyX8_nextPoint : Cond.initialized yX8_nextPoint.cls ∈ BIG := bg1 9 (by decide +kernel) rfl
theorem knyX8_nextPoint : Cond.instanceMethod yX8_nextPoint ∈ BIG := bg7 184 (by decide +kernel) rfl
theorem ksyX8_nextPoint : Cond.selects yX8_nextPoint.cls yX8_nextPoint yX8_nextPoint ∈ BIG := bgp (q := (yX8_nextPoint, 52)) (List.mem_of_getElem? (i := 117) (by decide +kernel)) rfl
theorem mw8_504 : Cond.methodLink RX8 504 yX8_nextPoint ∈ BIG := bg7 182 (by decide +kernel) rfl
theorem l8_504 : LkV RX8 504 8 yX8_nextPoint cX8_nextPoint 2 ((some .boolean)) 0 := ⟨mw8_504, knyX8_nextPoint, ksyX8_nextPoint, kiyX8_nextPoint, kyX8_nextPoint, ⟨_, rfl, rfl⟩, rfl, by decide +kernel, by decide +kernel, by decide +kernel⟩
/-- RoundedSumsModel.nextPoint -/
theorem v8_504 {E : Ev} {cc : ByteArray} {nL : Nat} {ret : Option FieldType} {R : Room} {cl sl : Nat} {Z : Zt} {pc : Nat} {L st : List Vv} {M : Mm} {N : Nn} {a b : Nat}  {h : Nat} {P : Int → Mm → Nn → Prop} (hd : decode cc pc = .ok (.invokevirtual 504, 3)) (hct : Nat.ble (ctL st) 8 = true) (hR : Nat.ble (h + 1) R.frames = true ∧ Nat.ble (8 + (2 + 11) + 40 * h) R.locals = true) (hcl : Nat.ble cl R.cells = true ∧ Nat.ble sl R.slots = true) (hc : Ct E yX8_nextPoint cX8_nextPoint 2 ((some .boolean)) (rmH h) [vr (29, a, b)] M N (qi P)) (k : ∀ r M1 N1, R32 r → P r M1 N1 → Go E RX8 cc nL ret R cl sl Z (pc + 3) L (vi r :: st) M1 N1) : Go E RX8 cc nL ret R cl sl Z (pc) L (vr (29, a, b) :: st) M N := go_callV (As := []) hd l8_504 rfl rfl rfl hct ⟨rfl, rfl⟩ ⟨Nat.le_of_ble_eq_true hR.1, Nat.le_of_ble_eq_true hR.2⟩ hc hcl (fun r M1 N1 h => by obtain ⟨z, rfl, h1, h⟩ := h; exact k z M1 N1 h1 h)
theorem kyX8_finerOf : Cond.code yX8_finerOf cX8_finerOf 5 ((some .int)) ∈ BIG := bg7 198 (rfl) rfl
theorem kiyX8_finerOf : Cond.initialized yX8_finerOf.cls ∈ BIG := bg1 9 (by decide +kernel) rfl
theorem knyX8_finerOf : Cond.instanceMethod yX8_finerOf ∈ BIG := bg7 197 (by decide +kernel) rfl
theorem ksyX8_finerOf : Cond.selects yX8_finerOf.cls yX8_finerOf yX8_finerOf ∈ BIG := bgp (q := (yX8_finerOf, 52)) (List.mem_of_getElem? (i := 118) (by decide +kernel)) rfl
theorem mw8_509 : Cond.methodLink RX8 509 yX8_finerOf ∈ BIG := bg7 195 (by decide +kernel) rfl
theorem l8_509 : LkV RX8 509 8 yX8_finerOf cX8_finerOf 5 ((some .int)) 2 := ⟨mw8_509, knyX8_finerOf, ksyX8_finerOf, kiyX8_finerOf, kyX8_finerOf, ⟨_, rfl, rfl⟩, rfl, by decide +kernel, by decide +kernel, by decide +kernel⟩
/-- RoundedSumsModel.finerOf -/
theorem v8_509 {E : Ev} {cc : ByteArray} {nL : Nat} {ret : Option FieldType} {R : Room} {cl sl : Nat} {Z : Zt} {pc : Nat} {L st : List Vv} {M : Mm} {N : Nn} {a b : Nat} {x0 : Int} {x1 : Int} {h : Nat} {P : Int → Mm → Nn → Prop} (hd : decode cc pc = .ok (.invokevirtual 509, 3)) (hct : Nat.ble (ctL st) 8 = true) (hR : Nat.ble (h + 1) R.frames = true ∧ Nat.ble (8 + (5 + 11) + 40 * h) R.locals = true) (hcl : Nat.ble cl R.cells = true ∧ Nat.ble sl R.slots = true) (hc : Ct E yX8_finerOf cX8_finerOf 5 ((some .int)) (rmH h) [vr (29, a, b), vi x0, vi x1] M N (qi P)) (k : ∀ r M1 N1, R32 r → P r M1 N1 → Go E RX8 cc nL ret R cl sl Z (pc + 3) L (vi r :: st) M1 N1) : Go E RX8 cc nL ret R cl sl Z (pc) L (vi x1 :: vi x0 :: vr (29, a, b) :: st) M N := go_callV (As := [vi x0, vi x1]) hd l8_509 rfl rfl rfl hct ⟨rfl, rfl⟩ ⟨Nat.le_of_ble_eq_true hR.1, Nat.le_of_ble_eq_true hR.2⟩ hc hcl (fun r M1 N1 h => by obtain ⟨z, rfl, h1, h⟩ := h; exact k z M1 N1 h1 h)
theorem kyJ0_coder_7d493 : Cond.code yJ0_coder_7d493 cJ0_coder_7d493 1 ((some .byte)) ∈ BIG := bg2 152 (rfl) rfl
theorem kiyJ0_coder_7d493 : Cond.initialized yJ0_coder_7d493.cls ∈ BIG := bg1 10 (by decide +kernel) rfl
theorem knyJ0_coder_7d493 : Cond.instanceMethod yJ0_coder_7d493 ∈ BIG := bg2 150 (by decide +kernel) rfl
theorem ksyJ0_coder_7d493 : Cond.selects yJ0_coder_7d493.cls yJ0_coder_7d493 yJ0_coder_7d493 ∈ BIG := bg2 151 (by decide +kernel) rfl
theorem mwJ0_335 : Cond.methodLink RJ0 335 yJ0_coder_7d493 ∈ BIG := bg2 149 (by decide +kernel) rfl
theorem kyJ0_isLatin1_aae02 : Cond.code yJ0_isLatin1_aae02 cJ0_isLatin1_aae02 1 ((some .boolean)) ∈ BIG := bg2 162 (rfl) rfl
theorem kiyJ0_isLatin1_aae02 : Cond.initialized yJ0_isLatin1_aae02.cls ∈ BIG := bg1 10 (by decide +kernel) rfl
theorem knyJ0_isLatin1_aae02 : Cond.instanceMethod yJ0_isLatin1_aae02 ∈ BIG := bg2 160 (by decide +kernel) rfl
theorem ksyJ0_isLatin1_aae02 : Cond.selects yJ0_isLatin1_aae02.cls yJ0_isLatin1_aae02 yJ0_isLatin1_aae02 ∈ BIG := bg2 161 (by decide +kernel) rfl
theorem mwJ0_492 : Cond.methodLink RJ0 492 yJ0_isLatin1_aae02 ∈ BIG := bg2 159 (by decide +kernel) rfl
theorem kyJ1_charAt_3b067 : Cond.code yJ1_charAt_3b067 cJ1_charAt_3b067 2 ((some .char)) ∈ BIG := bg2 165 (rfl) rfl
theorem kiyJ1_charAt_3b067 : Cond.initialized yJ1_charAt_3b067.cls ∈ BIG := bg1 11 (by decide +kernel) rfl
theorem ktyJ1_charAt_3b067 : Cond.static yJ1_charAt_3b067 ∈ BIG := bg2 164 (by decide +kernel) rfl
theorem mwJ0_495 : Cond.methodLink RJ0 495 yJ1_charAt_3b067 ∈ BIG := bg2 163 (by decide +kernel) rfl
theorem lJ0_495 : LkS RJ0 495 yJ1_charAt_3b067 cJ1_charAt_3b067 2 ((some .char)) 2 := ⟨mwJ0_495, ktyJ1_charAt_3b067, kiyJ1_charAt_3b067, kyJ1_charAt_3b067, by decide +kernel, by decide +kernel, by decide +kernel⟩
/-- java/lang/StringLatin1.charAt -/
theorem vJ0_495 {E : Ev} {cc : ByteArray} {nL : Nat} {ret : Option FieldType} {R : Room} {cl sl : Nat} {Z : Zt} {pc : Nat} {L st : List Vv} {M : Mm} {N : Nn} {x0 : Nm} {x1 : Int} {h : Nat} {P : Int → Mm → Nn → Prop} (hd : decode cc pc = .ok (.invokestatic 495, 3)) (hct : Nat.ble (ctL st) 8 = true) (hR : Nat.ble (h + 1) R.frames = true ∧ Nat.ble (8 + (2 + 11) + 40 * h) R.locals = true) (hcl : Nat.ble cl R.cells = true ∧ Nat.ble sl R.slots = true) (hc : Ct E yJ1_charAt_3b067 cJ1_charAt_3b067 2 ((some .char)) (rmH h) [vr x0, vi x1] M N (qi P)) (k : ∀ r M1 N1, R32 r → P r M1 N1 → Go E RJ0 cc nL ret R cl sl Z (pc + 3) L (vi r :: st) M1 N1) : Go E RJ0 cc nL ret R cl sl Z (pc) L (vi x1 :: vr x0 :: st) M N := go_callS (As := [vr x0, vi x1]) hd lJ0_495 rfl rfl hct ⟨rfl, rfl⟩ ⟨Nat.le_of_ble_eq_true hR.1, Nat.le_of_ble_eq_true hR.2⟩ hc hcl (fun r M1 N1 h => by obtain ⟨z, rfl, h1, h⟩ := h; exact k z M1 N1 h1 h)
theorem kyJ2_charAt_3b067 : Cond.code yJ2_charAt_3b067 cJ2_charAt_3b067 2 ((some .char)) ∈ BIG := bg2 176 (rfl) rfl
theorem kiyJ2_charAt_3b067 : Cond.initialized yJ2_charAt_3b067.cls ∈ BIG := bg1 13 (by decide +kernel) rfl
theorem ktyJ2_charAt_3b067 : Cond.static yJ2_charAt_3b067 ∈ BIG := bg2 175 (by decide +kernel) rfl
theorem mwJ0_498 : Cond.methodLink RJ0 498 yJ2_charAt_3b067 ∈ BIG := bg2 174 (by decide +kernel) rfl
theorem lJ0_498 : LkS RJ0 498 yJ2_charAt_3b067 cJ2_charAt_3b067 2 ((some .char)) 2 := ⟨mwJ0_498, ktyJ2_charAt_3b067, kiyJ2_charAt_3b067, kyJ2_charAt_3b067, by decide +kernel, by decide +kernel, by decide +kernel⟩
/-- java/lang/StringUTF16.charAt -/
theorem vJ0_498 {E : Ev} {cc : ByteArray} {nL : Nat} {ret : Option FieldType} {R : Room} {cl sl : Nat} {Z : Zt} {pc : Nat} {L st : List Vv} {M : Mm} {N : Nn} {x0 : Nm} {x1 : Int} {h : Nat} {P : Int → Mm → Nn → Prop} (hd : decode cc pc = .ok (.invokestatic 498, 3)) (hct : Nat.ble (ctL st) 8 = true) (hR : Nat.ble (h + 1) R.frames = true ∧ Nat.ble (8 + (2 + 11) + 40 * h) R.locals = true) (hcl : Nat.ble cl R.cells = true ∧ Nat.ble sl R.slots = true) (hc : Ct E yJ2_charAt_3b067 cJ2_charAt_3b067 2 ((some .char)) (rmH h) [vr x0, vi x1] M N (qi P)) (k : ∀ r M1 N1, R32 r → P r M1 N1 → Go E RJ0 cc nL ret R cl sl Z (pc + 3) L (vi r :: st) M1 N1) : Go E RJ0 cc nL ret R cl sl Z (pc) L (vi x1 :: vr x0 :: st) M N := go_callS (As := [vr x0, vi x1]) hd lJ0_498 rfl rfl hct ⟨rfl, rfl⟩ ⟨Nat.le_of_ble_eq_true hR.1, Nat.le_of_ble_eq_true hR.2⟩ hc hcl (fun r M1 N1 h => by obtain ⟨z, rfl, h1, h⟩ := h; exact k z M1 N1 h1 h)
theorem kyJ3_checkIndex_8e157 : Cond.code yJ3_checkIndex_8e157 cJ3_checkIndex_8e157 3 ((some .int)) ∈ BIG := bg2 173 (rfl) rfl
theorem kiyJ3_checkIndex_8e157 : Cond.initialized yJ3_checkIndex_8e157.cls ∈ BIG := bg1 12 (by decide +kernel) rfl
theorem ktyJ3_checkIndex_8e157 : Cond.static yJ3_checkIndex_8e157 ∈ BIG := bg2 172 (by decide +kernel) rfl
theorem mwJ0_1059 : Cond.methodLink RJ0 1059 yJ3_checkIndex_8e157 ∈ BIG := bg2 171 (by decide +kernel) rfl
theorem lJ0_1059 : LkS RJ0 1059 yJ3_checkIndex_8e157 cJ3_checkIndex_8e157 3 ((some .int)) 3 := ⟨mwJ0_1059, ktyJ3_checkIndex_8e157, kiyJ3_checkIndex_8e157, kyJ3_checkIndex_8e157, by decide +kernel, by decide +kernel, by decide +kernel⟩
/-- jdk/internal/util/Preconditions.checkIndex -/
theorem vJ0_1059 {E : Ev} {cc : ByteArray} {nL : Nat} {ret : Option FieldType} {R : Room} {cl sl : Nat} {Z : Zt} {pc : Nat} {L st : List Vv} {M : Mm} {N : Nn} {x0 : Int} {x1 : Int} {x2 : Nm} {h : Nat} {P : Int → Mm → Nn → Prop} (hd : decode cc pc = .ok (.invokestatic 1059, 3)) (hct : Nat.ble (ctL st) 8 = true) (hR : Nat.ble (h + 1) R.frames = true ∧ Nat.ble (8 + (3 + 11) + 40 * h) R.locals = true) (hcl : Nat.ble cl R.cells = true ∧ Nat.ble sl R.slots = true) (hc : Ct E yJ3_checkIndex_8e157 cJ3_checkIndex_8e157 3 ((some .int)) (rmH h) [vi x0, vi x1, vr x2] M N (qi P)) (k : ∀ r M1 N1, R32 r → P r M1 N1 → Go E RJ0 cc nL ret R cl sl Z (pc + 3) L (vi r :: st) M1 N1) : Go E RJ0 cc nL ret R cl sl Z (pc) L (vr x2 :: vi x1 :: vi x0 :: st) M N := go_callS (As := [vi x0, vi x1, vr x2]) hd lJ0_1059 rfl rfl hct ⟨rfl, rfl⟩ ⟨Nat.le_of_ble_eq_true hR.1, Nat.le_of_ble_eq_true hR.2⟩ hc hcl (fun r M1 N1 h => by obtain ⟨z, rfl, h1, h⟩ := h; exact k z M1 N1 h1 h)
theorem kyJ0_checkIndex_df160 : Cond.code yJ0_checkIndex_df160 cJ0_checkIndex_df160 2 (none) ∈ BIG := bg2 168 (rfl) rfl
theorem kiyJ0_checkIndex_df160 : Cond.initialized yJ0_checkIndex_df160.cls ∈ BIG := bg1 10 (by decide +kernel) rfl
theorem ktyJ0_checkIndex_df160 : Cond.static yJ0_checkIndex_df160 ∈ BIG := bg2 167 (by decide +kernel) rfl
theorem mwJ1_9 : Cond.methodLink RJ1 9 yJ0_checkIndex_df160 ∈ BIG := bg2 166 (by decide +kernel) rfl
theorem lJ1_9 : LkS RJ1 9 yJ0_checkIndex_df160 cJ0_checkIndex_df160 2 (none) 2 := ⟨mwJ1_9, ktyJ0_checkIndex_df160, kiyJ0_checkIndex_df160, kyJ0_checkIndex_df160, by decide +kernel, by decide +kernel, by decide +kernel⟩
/-- java/lang/String.checkIndex -/
theorem vJ1_9 {E : Ev} {cc : ByteArray} {nL : Nat} {ret : Option FieldType} {R : Room} {cl sl : Nat} {Z : Zt} {pc : Nat} {L st : List Vv} {M : Mm} {N : Nn} {x0 : Int} {x1 : Int} {h : Nat} {P : Mm → Nn → Prop} (hd : decode cc pc = .ok (.invokestatic 9, 3)) (hct : Nat.ble (ctL st) 8 = true) (hR : Nat.ble (h + 1) R.frames = true ∧ Nat.ble (8 + (2 + 11) + 40 * h) R.locals = true) (hcl : Nat.ble cl R.cells = true ∧ Nat.ble sl R.slots = true) (hc : Ct E yJ0_checkIndex_df160 cJ0_checkIndex_df160 2 (none) (rmH h) [vi x0, vi x1] M N (qv P)) (k : ∀ M1 N1, P M1 N1 → Go E RJ1 cc nL ret R cl sl Z (pc + 3) L (st) M1 N1) : Go E RJ1 cc nL ret R cl sl Z (pc) L (vi x1 :: vi x0 :: st) M N := go_callS (As := [vi x0, vi x1]) hd lJ1_9 rfl rfl hct ⟨rfl, rfl⟩ ⟨Nat.le_of_ble_eq_true hR.1, Nat.le_of_ble_eq_true hR.2⟩ hc hcl (fun r M1 N1 h => by obtain ⟨rfl, h⟩ := h; exact k M1 N1 h)
theorem kyJ2_length_9d52b : Cond.code yJ2_length_9d52b cJ2_length_9d52b 1 ((some .int)) ∈ BIG := bg2 182 (rfl) rfl
theorem kiyJ2_length_9d52b : Cond.initialized yJ2_length_9d52b.cls ∈ BIG := bg1 13 (by decide +kernel) rfl
theorem ktyJ2_length_9d52b : Cond.static yJ2_length_9d52b ∈ BIG := bg2 181 (by decide +kernel) rfl
theorem mwJ2_48 : Cond.methodLink RJ2 48 yJ2_length_9d52b ∈ BIG := bg2 180 (by decide +kernel) rfl
theorem lJ2_48 : LkS RJ2 48 yJ2_length_9d52b cJ2_length_9d52b 1 ((some .int)) 1 := ⟨mwJ2_48, ktyJ2_length_9d52b, kiyJ2_length_9d52b, kyJ2_length_9d52b, by decide +kernel, by decide +kernel, by decide +kernel⟩
/-- java/lang/StringUTF16.length -/
theorem vJ2_48 {E : Ev} {cc : ByteArray} {nL : Nat} {ret : Option FieldType} {R : Room} {cl sl : Nat} {Z : Zt} {pc : Nat} {L st : List Vv} {M : Mm} {N : Nn} {x0 : Nm} {h : Nat} {P : Int → Mm → Nn → Prop} (hd : decode cc pc = .ok (.invokestatic 48, 3)) (hct : Nat.ble (ctL st) 8 = true) (hR : Nat.ble (h + 1) R.frames = true ∧ Nat.ble (8 + (1 + 11) + 40 * h) R.locals = true) (hcl : Nat.ble cl R.cells = true ∧ Nat.ble sl R.slots = true) (hc : Ct E yJ2_length_9d52b cJ2_length_9d52b 1 ((some .int)) (rmH h) [vr x0] M N (qi P)) (k : ∀ r M1 N1, R32 r → P r M1 N1 → Go E RJ2 cc nL ret R cl sl Z (pc + 3) L (vi r :: st) M1 N1) : Go E RJ2 cc nL ret R cl sl Z (pc) L (vr x0 :: st) M N := go_callS (As := [vr x0]) hd lJ2_48 rfl rfl hct ⟨rfl, rfl⟩ ⟨Nat.le_of_ble_eq_true hR.1, Nat.le_of_ble_eq_true hR.2⟩ hc hcl (fun r M1 N1 h => by obtain ⟨z, rfl, h1, h⟩ := h; exact k z M1 N1 h1 h)
theorem kyJ2_checkIndex_2214a : Cond.code yJ2_checkIndex_2214a cJ2_checkIndex_2214a 2 (none) ∈ BIG := bg2 179 (rfl) rfl
theorem kiyJ2_checkIndex_2214a : Cond.initialized yJ2_checkIndex_2214a.cls ∈ BIG := bg1 13 (by decide +kernel) rfl
theorem ktyJ2_checkIndex_2214a : Cond.static yJ2_checkIndex_2214a ∈ BIG := bg2 178 (by decide +kernel) rfl
theorem mwJ2_67 : Cond.methodLink RJ2 67 yJ2_checkIndex_2214a ∈ BIG := bg2 177 (by decide +kernel) rfl
theorem lJ2_67 : LkS RJ2 67 yJ2_checkIndex_2214a cJ2_checkIndex_2214a 2 (none) 2 := ⟨mwJ2_67, ktyJ2_checkIndex_2214a, kiyJ2_checkIndex_2214a, kyJ2_checkIndex_2214a, by decide +kernel, by decide +kernel, by decide +kernel⟩
/-- java/lang/StringUTF16.checkIndex -/
theorem vJ2_67 {E : Ev} {cc : ByteArray} {nL : Nat} {ret : Option FieldType} {R : Room} {cl sl : Nat} {Z : Zt} {pc : Nat} {L st : List Vv} {M : Mm} {N : Nn} {x0 : Int} {x1 : Nm} {h : Nat} {P : Mm → Nn → Prop} (hd : decode cc pc = .ok (.invokestatic 67, 3)) (hct : Nat.ble (ctL st) 8 = true) (hR : Nat.ble (h + 1) R.frames = true ∧ Nat.ble (8 + (2 + 11) + 40 * h) R.locals = true) (hcl : Nat.ble cl R.cells = true ∧ Nat.ble sl R.slots = true) (hc : Ct E yJ2_checkIndex_2214a cJ2_checkIndex_2214a 2 (none) (rmH h) [vi x0, vr x1] M N (qv P)) (k : ∀ M1 N1, P M1 N1 → Go E RJ2 cc nL ret R cl sl Z (pc + 3) L (st) M1 N1) : Go E RJ2 cc nL ret R cl sl Z (pc) L (vr x1 :: vi x0 :: st) M N := go_callS (As := [vi x0, vr x1]) hd lJ2_67 rfl rfl hct ⟨rfl, rfl⟩ ⟨Nat.le_of_ble_eq_true hR.1, Nat.le_of_ble_eq_true hR.2⟩ hc hcl (fun r M1 N1 h => by obtain ⟨rfl, h⟩ := h; exact k M1 N1 h)
theorem kyJ2_getChar_3b067 : Cond.code yJ2_getChar_3b067 cJ2_getChar_3b067 2 ((some .char)) ∈ BIG := bg2 186 (rfl) rfl
theorem kiyJ2_getChar_3b067 : Cond.initialized yJ2_getChar_3b067.cls ∈ BIG := bg1 13 (by decide +kernel) rfl
theorem ktyJ2_getChar_3b067 : Cond.static yJ2_getChar_3b067 ∈ BIG := bg2 185 (by decide +kernel) rfl
theorem mwJ2_71 : Cond.methodLink RJ2 71 yJ2_getChar_3b067 ∈ BIG := bg2 184 (by decide +kernel) rfl
theorem lJ2_71 : LkS RJ2 71 yJ2_getChar_3b067 cJ2_getChar_3b067 2 ((some .char)) 2 := ⟨mwJ2_71, ktyJ2_getChar_3b067, kiyJ2_getChar_3b067, kyJ2_getChar_3b067, by decide +kernel, by decide +kernel, by decide +kernel⟩
/-- java/lang/StringUTF16.getChar -/
theorem vJ2_71 {E : Ev} {cc : ByteArray} {nL : Nat} {ret : Option FieldType} {R : Room} {cl sl : Nat} {Z : Zt} {pc : Nat} {L st : List Vv} {M : Mm} {N : Nn} {x0 : Nm} {x1 : Int} {h : Nat} {P : Int → Mm → Nn → Prop} (hd : decode cc pc = .ok (.invokestatic 71, 3)) (hct : Nat.ble (ctL st) 8 = true) (hR : Nat.ble (h + 1) R.frames = true ∧ Nat.ble (8 + (2 + 11) + 40 * h) R.locals = true) (hcl : Nat.ble cl R.cells = true ∧ Nat.ble sl R.slots = true) (hc : Ct E yJ2_getChar_3b067 cJ2_getChar_3b067 2 ((some .char)) (rmH h) [vr x0, vi x1] M N (qi P)) (k : ∀ r M1 N1, R32 r → P r M1 N1 → Go E RJ2 cc nL ret R cl sl Z (pc + 3) L (vi r :: st) M1 N1) : Go E RJ2 cc nL ret R cl sl Z (pc) L (vi x1 :: vr x0 :: st) M N := go_callS (As := [vr x0, vi x1]) hd lJ2_71 rfl rfl hct ⟨rfl, rfl⟩ ⟨Nat.le_of_ble_eq_true hR.1, Nat.le_of_ble_eq_true hR.2⟩ hc hcl (fun r M1 N1 h => by obtain ⟨z, rfl, h1, h⟩ := h; exact k z M1 N1 h1 h)
theorem mwJ2_414 : Cond.methodLink RJ2 414 yJ0_checkIndex_df160 ∈ BIG := bg2 183 (by decide +kernel) rfl
theorem lJ2_414 : LkS RJ2 414 yJ0_checkIndex_df160 cJ0_checkIndex_df160 2 (none) 2 := ⟨mwJ2_414, ktyJ0_checkIndex_df160, kiyJ0_checkIndex_df160, kyJ0_checkIndex_df160, by decide +kernel, by decide +kernel, by decide +kernel⟩
/-- java/lang/String.checkIndex -/
theorem vJ2_414 {E : Ev} {cc : ByteArray} {nL : Nat} {ret : Option FieldType} {R : Room} {cl sl : Nat} {Z : Zt} {pc : Nat} {L st : List Vv} {M : Mm} {N : Nn} {x0 : Int} {x1 : Int} {h : Nat} {P : Mm → Nn → Prop} (hd : decode cc pc = .ok (.invokestatic 414, 3)) (hct : Nat.ble (ctL st) 8 = true) (hR : Nat.ble (h + 1) R.frames = true ∧ Nat.ble (8 + (2 + 11) + 40 * h) R.locals = true) (hcl : Nat.ble cl R.cells = true ∧ Nat.ble sl R.slots = true) (hc : Ct E yJ0_checkIndex_df160 cJ0_checkIndex_df160 2 (none) (rmH h) [vi x0, vi x1] M N (qv P)) (k : ∀ M1 N1, P M1 N1 → Go E RJ2 cc nL ret R cl sl Z (pc + 3) L (st) M1 N1) : Go E RJ2 cc nL ret R cl sl Z (pc) L (vi x1 :: vi x0 :: st) M N := go_callS (As := [vi x0, vi x1]) hd lJ2_414 rfl rfl hct ⟨rfl, rfl⟩ ⟨Nat.le_of_ble_eq_true hR.1, Nat.le_of_ble_eq_true hR.2⟩ hc hcl (fun r M1 N1 h => by obtain ⟨rfl, h⟩ := h; exact k M1 N1 h)
theorem c7_298 {E : Ev} {cc : ByteArray} {nL : Nat} {ret : Option FieldType} {R : Room} {cl sl : Nat} {Z : Zt} {pc : Nat} {L st : List Vv} {M : Mm} {N : Nn} (hd : decode cc pc = .ok (.ldc 298, 2)) (k : Go E RX7 cc nL ret R cl sl Z (pc + 2) L (vi 65537 :: st) M N) : Go E RX7 cc nL ret R cl sl Z (pc) L (st) M N := by
  intro p e s m args below meth c C H locs ls hP hS hL hst hl
  exact lv_ldc (v := 65537) C.1 C.2.1 C.2.2.2.2.1 (C.2.2.2.2.2.1 _ (bg4 140 (by decide +kernel) rfl)) hd (k p e s m args below meth c C H locs ls hP hS hL (okL_cons (R32_lit rfl) hst) hl)
theorem c7_299 {E : Ev} {cc : ByteArray} {nL : Nat} {ret : Option FieldType} {R : Room} {cl sl : Nat} {Z : Zt} {pc : Nat} {L st : List Vv} {M : Mm} {N : Nn} (hd : decode cc pc = .ok (.ldc 299, 2)) (k : Go E RX7 cc nL ret R cl sl Z (pc + 2) L (vi 1000000 :: st) M N) : Go E RX7 cc nL ret R cl sl Z (pc) L (st) M N := by
  intro p e s m args below meth c C H locs ls hP hS hL hst hl
  exact lv_ldc (v := 1000000) C.1 C.2.1 C.2.2.2.2.1 (C.2.2.2.2.2.1 _ (bg4 132 (by decide +kernel) rfl)) hd (k p e s m args below meth c C H locs ls hP hS hL (okL_cons (R32_lit rfl) hst) hl)
theorem c6_83 {E : Ev} {cc : ByteArray} {nL : Nat} {ret : Option FieldType} {R : Room} {cl sl : Nat} {Z : Zt} {pc : Nat} {L st : List Vv} {M : Mm} {N : Nn} (hd : decode cc pc = .ok (.ldc 83, 2)) (k : Go E RX6 cc nL ret R cl sl Z (pc + 2) L (vi 65537 :: st) M N) : Go E RX6 cc nL ret R cl sl Z (pc) L (st) M N := by
  intro p e s m args below meth c C H locs ls hP hS hL hst hl
  exact lv_ldc (v := 65537) C.1 C.2.1 C.2.2.2.2.1 (C.2.2.2.2.2.1 _ (bg4 154 (by decide +kernel) rfl)) hd (k p e s m args below meth c C H locs ls hP hS hL (okL_cons (R32_lit rfl) hst) hl)
theorem c8_471 {E : Ev} {cc : ByteArray} {nL : Nat} {ret : Option FieldType} {R : Room} {cl sl : Nat} {Z : Zt} {pc : Nat} {L st : List Vv} {M : Mm} {N : Nn} (hd : decode cc pc = .ok (.ldc 471, 2)) (k : Go E RX8 cc nL ret R cl sl Z (pc + 2) L (vi 65537 :: st) M N) : Go E RX8 cc nL ret R cl sl Z (pc) L (st) M N := by
  intro p e s m args below meth c C H locs ls hP hS hL hst hl
  exact lv_ldc (v := 65537) C.1 C.2.1 C.2.2.2.2.1 (C.2.2.2.2.2.1 _ (bg7 160 (by decide +kernel) rfl)) hd (k p e s m args below meth c C H locs ls hP hS hL (okL_cons (R32_lit rfl) hst) hl)
theorem c7_110 {E : Ev} {cc : ByteArray} {nL : Nat} {ret : Option FieldType} {R : Room} {cl sl : Nat} {Z : Zt} {pc : Nat} {L st : List Vv} {M : Mm} {N : Nn} (hd : decode cc pc = .ok (.ldc2_w 110, 3)) (k : Go E RX7 cc nL ret R cl sl Z (pc + 3) L (vl 999999999 :: st) M N) : Go E RX7 cc nL ret R cl sl Z (pc) L (st) M N := by
  intro p e s m args below meth c C H locs ls hP hS hL hst hl
  exact lv_ldc2 (v := 999999999) C.1 C.2.1 C.2.2.2.2.1 (C.2.2.2.2.2.1 _ (bg3 189 (by decide +kernel) rfl)) hd (k p e s m args below meth c C H locs ls hP hS hL (okL_cons (R64_lit rfl) hst) hl)
theorem c7_135 {E : Ev} {cc : ByteArray} {nL : Nat} {ret : Option FieldType} {R : Room} {cl sl : Nat} {Z : Zt} {pc : Nat} {L st : List Vv} {M : Mm} {N : Nn} (hd : decode cc pc = .ok (.ldc2_w 135, 3)) (k : Go E RX7 cc nL ret R cl sl Z (pc + 3) L (vl (-2) :: st) M N) : Go E RX7 cc nL ret R cl sl Z (pc) L (st) M N := by
  intro p e s m args below meth c C H locs ls hP hS hL hst hl
  exact lv_ldc2 (v := (-2)) C.1 C.2.1 C.2.2.2.2.1 (C.2.2.2.2.2.1 _ (bg3 205 (by decide +kernel) rfl)) hd (k p e s m args below meth c C H locs ls hP hS hL (okL_cons (R64_lit rfl) hst) hl)
theorem c7_256 {E : Ev} {cc : ByteArray} {nL : Nat} {ret : Option FieldType} {R : Room} {cl sl : Nat} {Z : Zt} {pc : Nat} {L st : List Vv} {M : Mm} {N : Nn} (hd : decode cc pc = .ok (.ldc2_w 256, 3)) (k : Go E RX7 cc nL ret R cl sl Z (pc + 3) L (vl 2000 :: st) M N) : Go E RX7 cc nL ret R cl sl Z (pc) L (st) M N := by
  intro p e s m args below meth c C H locs ls hP hS hL hst hl
  exact lv_ldc2 (v := 2000) C.1 C.2.1 C.2.2.2.2.1 (C.2.2.2.2.2.1 _ (bg4 183 (by decide +kernel) rfl)) hd (k p e s m args below meth c C H locs ls hP hS hL (okL_cons (R64_lit rfl) hst) hl)
theorem c7_296 {E : Ev} {cc : ByteArray} {nL : Nat} {ret : Option FieldType} {R : Room} {cl sl : Nat} {Z : Zt} {pc : Nat} {L st : List Vv} {M : Mm} {N : Nn} (hd : decode cc pc = .ok (.ldc2_w 296, 3)) (k : Go E RX7 cc nL ret R cl sl Z (pc + 3) L (vl (-9223372036854775808) :: st) M N) : Go E RX7 cc nL ret R cl sl Z (pc) L (st) M N := by
  intro p e s m args below meth c C H locs ls hP hS hL hst hl
  exact lv_ldc2 (v := (-9223372036854775808)) C.1 C.2.1 C.2.2.2.2.1 (C.2.2.2.2.2.1 _ (bg3 203 (by decide +kernel) rfl)) hd (k p e s m args below meth c C H locs ls hP hS hL (okL_cons (R64_lit rfl) hst) hl)
theorem c1_183 {E : Ev} {cc : ByteArray} {nL : Nat} {ret : Option FieldType} {R : Room} {cl sl : Nat} {Z : Zt} {pc : Nat} {L st : List Vv} {M : Mm} {N : Nn} (hd : decode cc pc = .ok (.ldc2_w 183, 3)) (k : Go E RX1 cc nL ret R cl sl Z (pc + 3) L (vl (-1) :: st) M N) : Go E RX1 cc nL ret R cl sl Z (pc) L (st) M N := by
  intro p e s m args below meth c C H locs ls hP hS hL hst hl
  exact lv_ldc2 (v := (-1)) C.1 C.2.1 C.2.2.2.2.1 (C.2.2.2.2.2.1 _ (bg3 143 (by decide +kernel) rfl)) hd (k p e s m args below meth c C H locs ls hP hS hL (okL_cons (R64_lit rfl) hst) hl)
theorem c2_73 {E : Ev} {cc : ByteArray} {nL : Nat} {ret : Option FieldType} {R : Room} {cl sl : Nat} {Z : Zt} {pc : Nat} {L st : List Vv} {M : Mm} {N : Nn} (hd : decode cc pc = .ok (.ldc2_w 73, 3)) (k : Go E RX2 cc nL ret R cl sl Z (pc + 3) L (vl (-1) :: st) M N) : Go E RX2 cc nL ret R cl sl Z (pc) L (st) M N := by
  intro p e s m args below meth c C H locs ls hP hS hL hst hl
  exact lv_ldc2 (v := (-1)) C.1 C.2.1 C.2.2.2.2.1 (C.2.2.2.2.2.1 _ (bg4 116 (by decide +kernel) rfl)) hd (k p e s m args below meth c C H locs ls hP hS hL (okL_cons (R64_lit rfl) hst) hl)
theorem c3_89 {E : Ev} {cc : ByteArray} {nL : Nat} {ret : Option FieldType} {R : Room} {cl sl : Nat} {Z : Zt} {pc : Nat} {L st : List Vv} {M : Mm} {N : Nn} (hd : decode cc pc = .ok (.ldc2_w 89, 3)) (k : Go E RX3 cc nL ret R cl sl Z (pc + 3) L (vl 1000000 :: st) M N) : Go E RX3 cc nL ret R cl sl Z (pc) L (st) M N := by
  intro p e s m args below meth c C H locs ls hP hS hL hst hl
  exact lv_ldc2 (v := 1000000) C.1 C.2.1 C.2.2.2.2.1 (C.2.2.2.2.2.1 _ (bg3 41 (by decide +kernel) rfl)) hd (k p e s m args below meth c C H locs ls hP hS hL (okL_cons (R64_lit rfl) hst) hl)
theorem c3_97 {E : Ev} {cc : ByteArray} {nL : Nat} {ret : Option FieldType} {R : Room} {cl sl : Nat} {Z : Zt} {pc : Nat} {L st : List Vv} {M : Mm} {N : Nn} (hd : decode cc pc = .ok (.ldc2_w 97, 3)) (k : Go E RX3 cc nL ret R cl sl Z (pc + 3) L (vl 2 :: st) M N) : Go E RX3 cc nL ret R cl sl Z (pc) L (st) M N := by
  intro p e s m args below meth c C H locs ls hP hS hL hst hl
  exact lv_ldc2 (v := 2) C.1 C.2.1 C.2.2.2.2.1 (C.2.2.2.2.2.1 _ (bg3 36 (by decide +kernel) rfl)) hd (k p e s m args below meth c C H locs ls hP hS hL (okL_cons (R64_lit rfl) hst) hl)
theorem c5_53 {E : Ev} {cc : ByteArray} {nL : Nat} {ret : Option FieldType} {R : Room} {cl sl : Nat} {Z : Zt} {pc : Nat} {L st : List Vv} {M : Mm} {N : Nn} (hd : decode cc pc = .ok (.ldc2_w 53, 3)) (k : Go E RX5 cc nL ret R cl sl Z (pc + 3) L (vl 2 :: st) M N) : Go E RX5 cc nL ret R cl sl Z (pc) L (st) M N := by
  intro p e s m args below meth c C H locs ls hP hS hL hst hl
  exact lv_ldc2 (v := 2) C.1 C.2.1 C.2.2.2.2.1 (C.2.2.2.2.2.1 _ (bg4 5 (by decide +kernel) rfl)) hd (k p e s m args below meth c C H locs ls hP hS hL (okL_cons (R64_lit rfl) hst) hl)
theorem c6_29 {E : Ev} {cc : ByteArray} {nL : Nat} {ret : Option FieldType} {R : Room} {cl sl : Nat} {Z : Zt} {pc : Nat} {L st : List Vv} {M : Mm} {N : Nn} (hd : decode cc pc = .ok (.ldc2_w 29, 3)) (k : Go E RX6 cc nL ret R cl sl Z (pc + 3) L (vl (-1) :: st) M N) : Go E RX6 cc nL ret R cl sl Z (pc) L (st) M N := by
  intro p e s m args below meth c C H locs ls hP hS hL hst hl
  exact lv_ldc2 (v := (-1)) C.1 C.2.1 C.2.2.2.2.1 (C.2.2.2.2.2.1 _ (bg4 145 (by decide +kernel) rfl)) hd (k p e s m args below meth c C H locs ls hP hS hL (okL_cons (R64_lit rfl) hst) hl)
theorem c6_63 {E : Ev} {cc : ByteArray} {nL : Nat} {ret : Option FieldType} {R : Room} {cl sl : Nat} {Z : Zt} {pc : Nat} {L st : List Vv} {M : Mm} {N : Nn} (hd : decode cc pc = .ok (.ldc2_w 63, 3)) (k : Go E RX6 cc nL ret R cl sl Z (pc + 3) L (vl 2000 :: st) M N) : Go E RX6 cc nL ret R cl sl Z (pc) L (st) M N := by
  intro p e s m args below meth c C H locs ls hP hS hL hst hl
  exact lv_ldc2 (v := 2000) C.1 C.2.1 C.2.2.2.2.1 (C.2.2.2.2.2.1 _ (bg4 188 (by decide +kernel) rfl)) hd (k p e s m args below meth c C H locs ls hP hS hL (okL_cons (R64_lit rfl) hst) hl)
theorem c8_111 {E : Ev} {cc : ByteArray} {nL : Nat} {ret : Option FieldType} {R : Room} {cl sl : Nat} {Z : Zt} {pc : Nat} {L st : List Vv} {M : Mm} {N : Nn} (hd : decode cc pc = .ok (.ldc2_w 111, 3)) (k : Go E RX8 cc nL ret R cl sl Z (pc + 3) L (vl (-9223372036854775808) :: st) M N) : Go E RX8 cc nL ret R cl sl Z (pc) L (st) M N := by
  intro p e s m args below meth c C H locs ls hP hS hL hst hl
  exact lv_ldc2 (v := (-9223372036854775808)) C.1 C.2.1 C.2.2.2.2.1 (C.2.2.2.2.2.1 _ (bg6 234 (by decide +kernel) rfl)) hd (k p e s m args below meth c C H locs ls hP hS hL (okL_cons (R64_lit rfl) hst) hl)
theorem c8_136 {E : Ev} {cc : ByteArray} {nL : Nat} {ret : Option FieldType} {R : Room} {cl sl : Nat} {Z : Zt} {pc : Nat} {L st : List Vv} {M : Mm} {N : Nn} (hd : decode cc pc = .ok (.ldc2_w 136, 3)) (k : Go E RX8 cc nL ret R cl sl Z (pc + 3) L (vl 97 :: st) M N) : Go E RX8 cc nL ret R cl sl Z (pc) L (st) M N := by
  intro p e s m args below meth c C H locs ls hP hS hL hst hl
  exact lv_ldc2 (v := 97) C.1 C.2.1 C.2.2.2.2.1 (C.2.2.2.2.2.1 _ (bg6 21 (by decide +kernel) rfl)) hd (k p e s m args below meth c C H locs ls hP hS hL (okL_cons (R64_lit rfl) hst) hl)
theorem c8_138 {E : Ev} {cc : ByteArray} {nL : Nat} {ret : Option FieldType} {R : Room} {cl sl : Nat} {Z : Zt} {pc : Nat} {L st : List Vv} {M : Mm} {N : Nn} (hd : decode cc pc = .ok (.ldc2_w 138, 3)) (k : Go E RX8 cc nL ret R cl sl Z (pc + 3) L (vl 122 :: st) M N) : Go E RX8 cc nL ret R cl sl Z (pc) L (st) M N := by
  intro p e s m args below meth c C H locs ls hP hS hL hst hl
  exact lv_ldc2 (v := 122) C.1 C.2.1 C.2.2.2.2.1 (C.2.2.2.2.2.1 _ (bg6 22 (by decide +kernel) rfl)) hd (k p e s m args below meth c C H locs ls hP hS hL (okL_cons (R64_lit rfl) hst) hl)
theorem c8_144 {E : Ev} {cc : ByteArray} {nL : Nat} {ret : Option FieldType} {R : Room} {cl sl : Nat} {Z : Zt} {pc : Nat} {L st : List Vv} {M : Mm} {N : Nn} (hd : decode cc pc = .ok (.ldc2_w 144, 3)) (k : Go E RX8 cc nL ret R cl sl Z (pc + 3) L (vl 48 :: st) M N) : Go E RX8 cc nL ret R cl sl Z (pc) L (st) M N := by
  intro p e s m args below meth c C H locs ls hP hS hL hst hl
  exact lv_ldc2 (v := 48) C.1 C.2.1 C.2.2.2.2.1 (C.2.2.2.2.2.1 _ (bg6 23 (by decide +kernel) rfl)) hd (k p e s m args below meth c C H locs ls hP hS hL (okL_cons (R64_lit rfl) hst) hl)
theorem c8_146 {E : Ev} {cc : ByteArray} {nL : Nat} {ret : Option FieldType} {R : Room} {cl sl : Nat} {Z : Zt} {pc : Nat} {L st : List Vv} {M : Mm} {N : Nn} (hd : decode cc pc = .ok (.ldc2_w 146, 3)) (k : Go E RX8 cc nL ret R cl sl Z (pc + 3) L (vl 57 :: st) M N) : Go E RX8 cc nL ret R cl sl Z (pc) L (st) M N := by
  intro p e s m args below meth c C H locs ls hP hS hL hst hl
  exact lv_ldc2 (v := 57) C.1 C.2.1 C.2.2.2.2.1 (C.2.2.2.2.2.1 _ (bg6 24 (by decide +kernel) rfl)) hd (k p e s m args below meth c C H locs ls hP hS hL (okL_cons (R64_lit rfl) hst) hl)
theorem c8_230 {E : Ev} {cc : ByteArray} {nL : Nat} {ret : Option FieldType} {R : Room} {cl sl : Nat} {Z : Zt} {pc : Nat} {L st : List Vv} {M : Mm} {N : Nn} (hd : decode cc pc = .ok (.ldc2_w 230, 3)) (k : Go E RX8 cc nL ret R cl sl Z (pc + 3) L (vl 8 :: st) M N) : Go E RX8 cc nL ret R cl sl Z (pc) L (st) M N := by
  intro p e s m args below meth c C H locs ls hP hS hL hst hl
  exact lv_ldc2 (v := 8) C.1 C.2.1 C.2.2.2.2.1 (C.2.2.2.2.2.1 _ (bg6 91 (by decide +kernel) rfl)) hd (k p e s m args below meth c C H locs ls hP hS hL (okL_cons (R64_lit rfl) hst) hl)
theorem c8_255 {E : Ev} {cc : ByteArray} {nL : Nat} {ret : Option FieldType} {R : Room} {cl sl : Nat} {Z : Zt} {pc : Nat} {L st : List Vv} {M : Mm} {N : Nn} (hd : decode cc pc = .ok (.ldc2_w 255, 3)) (k : Go E RX8 cc nL ret R cl sl Z (pc + 3) L (vl 2 :: st) M N) : Go E RX8 cc nL ret R cl sl Z (pc) L (st) M N := by
  intro p e s m args below meth c C H locs ls hP hS hL hst hl
  exact lv_ldc2 (v := 2) C.1 C.2.1 C.2.2.2.2.1 (C.2.2.2.2.2.1 _ (bg6 106 (by decide +kernel) rfl)) hd (k p e s m args below meth c C H locs ls hP hS hL (okL_cons (R64_lit rfl) hst) hl)
theorem c8_257 {E : Ev} {cc : ByteArray} {nL : Nat} {ret : Option FieldType} {R : Room} {cl sl : Nat} {Z : Zt} {pc : Nat} {L st : List Vv} {M : Mm} {N : Nn} (hd : decode cc pc = .ok (.ldc2_w 257, 3)) (k : Go E RX8 cc nL ret R cl sl Z (pc + 3) L (vl 1000000 :: st) M N) : Go E RX8 cc nL ret R cl sl Z (pc) L (st) M N := by
  intro p e s m args below meth c C H locs ls hP hS hL hst hl
  exact lv_ldc2 (v := 1000000) C.1 C.2.1 C.2.2.2.2.1 (C.2.2.2.2.2.1 _ (bg6 107 (by decide +kernel) rfl)) hd (k p e s m args below meth c C H locs ls hP hS hL (okL_cons (R64_lit rfl) hst) hl)
theorem c8_288 {E : Ev} {cc : ByteArray} {nL : Nat} {ret : Option FieldType} {R : Room} {cl sl : Nat} {Z : Zt} {pc : Nat} {L st : List Vv} {M : Mm} {N : Nn} (hd : decode cc pc = .ok (.ldc2_w 288, 3)) (k : Go E RX8 cc nL ret R cl sl Z (pc + 3) L (vl 999999999 :: st) M N) : Go E RX8 cc nL ret R cl sl Z (pc) L (st) M N := by
  intro p e s m args below meth c C H locs ls hP hS hL hst hl
  exact lv_ldc2 (v := 999999999) C.1 C.2.1 C.2.2.2.2.1 (C.2.2.2.2.2.1 _ (bg6 224 (by decide +kernel) rfl)) hd (k p e s m args below meth c C H locs ls hP hS hL (okL_cons (R64_lit rfl) hst) hl)
theorem c8_290 {E : Ev} {cc : ByteArray} {nL : Nat} {ret : Option FieldType} {R : Room} {cl sl : Nat} {Z : Zt} {pc : Nat} {L st : List Vv} {M : Mm} {N : Nn} (hd : decode cc pc = .ok (.ldc2_w 290, 3)) (k : Go E RX8 cc nL ret R cl sl Z (pc + 3) L (vl 4 :: st) M N) : Go E RX8 cc nL ret R cl sl Z (pc) L (st) M N := by
  intro p e s m args below meth c C H locs ls hP hS hL hst hl
  exact lv_ldc2 (v := 4) C.1 C.2.1 C.2.2.2.2.1 (C.2.2.2.2.2.1 _ (bg6 124 (by decide +kernel) rfl)) hd (k p e s m args below meth c C H locs ls hP hS hL (okL_cons (R64_lit rfl) hst) hl)
theorem c8_309 {E : Ev} {cc : ByteArray} {nL : Nat} {ret : Option FieldType} {R : Room} {cl sl : Nat} {Z : Zt} {pc : Nat} {L st : List Vv} {M : Mm} {N : Nn} (hd : decode cc pc = .ok (.ldc2_w 309, 3)) (k : Go E RX8 cc nL ret R cl sl Z (pc + 3) L (vl 6 :: st) M N) : Go E RX8 cc nL ret R cl sl Z (pc) L (st) M N := by
  intro p e s m args below meth c C H locs ls hP hS hL hst hl
  exact lv_ldc2 (v := 6) C.1 C.2.1 C.2.2.2.2.1 (C.2.2.2.2.2.1 _ (bg6 233 (by decide +kernel) rfl)) hd (k p e s m args below meth c C H locs ls hP hS hL (okL_cons (R64_lit rfl) hst) hl)
theorem c8_311 {E : Ev} {cc : ByteArray} {nL : Nat} {ret : Option FieldType} {R : Room} {cl sl : Nat} {Z : Zt} {pc : Nat} {L st : List Vv} {M : Mm} {N : Nn} (hd : decode cc pc = .ok (.ldc2_w 311, 3)) (k : Go E RX8 cc nL ret R cl sl Z (pc + 3) L (vl (-2) :: st) M N) : Go E RX8 cc nL ret R cl sl Z (pc) L (st) M N := by
  intro p e s m args below meth c C H locs ls hP hS hL hst hl
  exact lv_ldc2 (v := (-2)) C.1 C.2.1 C.2.2.2.2.1 (C.2.2.2.2.2.1 _ (bg6 235 (by decide +kernel) rfl)) hd (k p e s m args below meth c C H locs ls hP hS hL (okL_cons (R64_lit rfl) hst) hl)
theorem c8_400 {E : Ev} {cc : ByteArray} {nL : Nat} {ret : Option FieldType} {R : Room} {cl sl : Nat} {Z : Zt} {pc : Nat} {L st : List Vv} {M : Mm} {N : Nn} (hd : decode cc pc = .ok (.ldc2_w 400, 3)) (k : Go E RX8 cc nL ret R cl sl Z (pc + 3) L (vl (-1) :: st) M N) : Go E RX8 cc nL ret R cl sl Z (pc) L (st) M N := by
  intro p e s m args below meth c C H locs ls hP hS hL hst hl
  exact lv_ldc2 (v := (-1)) C.1 C.2.1 C.2.2.2.2.1 (C.2.2.2.2.2.1 _ (bg6 194 (by decide +kernel) rfl)) hd (k p e s m args below meth c C H locs ls hP hS hL (okL_cons (R64_lit rfl) hst) hl)
theorem c8_460 {E : Ev} {cc : ByteArray} {nL : Nat} {ret : Option FieldType} {R : Room} {cl sl : Nat} {Z : Zt} {pc : Nat} {L st : List Vv} {M : Mm} {N : Nn} (hd : decode cc pc = .ok (.ldc2_w 460, 3)) (k : Go E RX8 cc nL ret R cl sl Z (pc + 3) L (vl 40 :: st) M N) : Go E RX8 cc nL ret R cl sl Z (pc) L (st) M N := by
  intro p e s m args below meth c C H locs ls hP hS hL hst hl
  exact lv_ldc2 (v := 40) C.1 C.2.1 C.2.2.2.2.1 (C.2.2.2.2.2.1 _ (bg7 109 (by decide +kernel) rfl)) hd (k p e s m args below meth c C H locs ls hP hS hL (okL_cons (R64_lit rfl) hst) hl)
theorem c8_492 {E : Ev} {cc : ByteArray} {nL : Nat} {ret : Option FieldType} {R : Room} {cl sl : Nat} {Z : Zt} {pc : Nat} {L st : List Vv} {M : Mm} {N : Nn} (hd : decode cc pc = .ok (.ldc2_w 492, 3)) (k : Go E RX8 cc nL ret R cl sl Z (pc + 3) L (vl 10 :: st) M N) : Go E RX8 cc nL ret R cl sl Z (pc) L (st) M N := by
  intro p e s m args below meth c C H locs ls hP hS hL hst hl
  exact lv_ldc2 (v := 10) C.1 C.2.1 C.2.2.2.2.1 (C.2.2.2.2.2.1 _ (bg7 146 (by decide +kernel) rfl)) hd (k p e s m args below meth c C H locs ls hP hS hL (okL_cons (R64_lit rfl) hst) hl)
theorem c8_494 {E : Ev} {cc : ByteArray} {nL : Nat} {ret : Option FieldType} {R : Room} {cl sl : Nat} {Z : Zt} {pc : Nat} {L st : List Vv} {M : Mm} {N : Nn} (hd : decode cc pc = .ok (.ldc2_w 494, 3)) (k : Go E RX8 cc nL ret R cl sl Z (pc + 3) L (vl 65536 :: st) M N) : Go E RX8 cc nL ret R cl sl Z (pc) L (st) M N := by
  intro p e s m args below meth c C H locs ls hP hS hL hst hl
  exact lv_ldc2 (v := 65536) C.1 C.2.1 C.2.2.2.2.1 (C.2.2.2.2.2.1 _ (bg7 147 (by decide +kernel) rfl)) hd (k p e s m args below meth c C H locs ls hP hS hL (okL_cons (R64_lit rfl) hst) hl)
theorem c8_502 {E : Ev} {cc : ByteArray} {nL : Nat} {ret : Option FieldType} {R : Room} {cl sl : Nat} {Z : Zt} {pc : Nat} {L st : List Vv} {M : Mm} {N : Nn} (hd : decode cc pc = .ok (.ldc2_w 502, 3)) (k : Go E RX8 cc nL ret R cl sl Z (pc + 3) L (vl 2000 :: st) M N) : Go E RX8 cc nL ret R cl sl Z (pc) L (st) M N := by
  intro p e s m args below meth c C H locs ls hP hS hL hst hl
  exact lv_ldc2 (v := 2000) C.1 C.2.1 C.2.2.2.2.1 (C.2.2.2.2.2.1 _ (bg7 181 (by decide +kernel) rfl)) hd (k p e s m args below meth c C H locs ls hP hS hL (okL_cons (R64_lit rfl) hst) hl)
theorem c8_507 {E : Ev} {cc : ByteArray} {nL : Nat} {ret : Option FieldType} {R : Room} {cl sl : Nat} {Z : Zt} {pc : Nat} {L st : List Vv} {M : Mm} {N : Nn} (hd : decode cc pc = .ok (.ldc2_w 507, 3)) (k : Go E RX8 cc nL ret R cl sl Z (pc + 3) L (vl 200 :: st) M N) : Go E RX8 cc nL ret R cl sl Z (pc) L (st) M N := by
  intro p e s m args below meth c C H locs ls hP hS hL hst hl
  exact lv_ldc2 (v := 200) C.1 C.2.1 C.2.2.2.2.1 (C.2.2.2.2.2.1 _ (bg7 190 (by decide +kernel) rfl)) hd (k p e s m args below meth c C H locs ls hP hS hL (okL_cons (R64_lit rfl) hst) hl)
theorem c8_512 {E : Ev} {cc : ByteArray} {nL : Nat} {ret : Option FieldType} {R : Room} {cl sl : Nat} {Z : Zt} {pc : Nat} {L st : List Vv} {M : Mm} {N : Nn} (hd : decode cc pc = .ok (.ldc2_w 512, 3)) (k : Go E RX8 cc nL ret R cl sl Z (pc + 3) L (vl (-1000) :: st) M N) : Go E RX8 cc nL ret R cl sl Z (pc) L (st) M N := by
  intro p e s m args below meth c C H locs ls hP hS hL hst hl
  exact lv_ldc2 (v := (-1000)) C.1 C.2.1 C.2.2.2.2.1 (C.2.2.2.2.2.1 _ (bg7 207 (by decide +kernel) rfl)) hd (k p e s m args below meth c C H locs ls hP hS hL (okL_cons (R64_lit rfl) hst) hl)
theorem c8_514 {E : Ev} {cc : ByteArray} {nL : Nat} {ret : Option FieldType} {R : Room} {cl sl : Nat} {Z : Zt} {pc : Nat} {L st : List Vv} {M : Mm} {N : Nn} (hd : decode cc pc = .ok (.ldc2_w 514, 3)) (k : Go E RX8 cc nL ret R cl sl Z (pc + 3) L (vl 1000 :: st) M N) : Go E RX8 cc nL ret R cl sl Z (pc) L (st) M N := by
  intro p e s m args below meth c C H locs ls hP hS hL hst hl
  exact lv_ldc2 (v := 1000) C.1 C.2.1 C.2.2.2.2.1 (C.2.2.2.2.2.1 _ (bg7 208 (by decide +kernel) rfl)) hd (k p e s m args below meth c C H locs ls hP hS hL (okL_cons (R64_lit rfl) hst) hl)
theorem a2_75 : ALk RX2 75 := ⟨bg4 115 (by decide +kernel) rfl, bg4 92 (by decide +kernel) rfl, bg4 91 (by decide +kernel) rfl, bg1 15 (by decide +kernel) rfl⟩
theorem a3_46 : ALk RX3 46 := ⟨bg4 90 (by decide +kernel) rfl, bg4 92 (by decide +kernel) rfl, bg4 91 (by decide +kernel) rfl, bg1 15 (by decide +kernel) rfl⟩
theorem a6_43 : ALk RX6 43 := ⟨bg4 174 (by decide +kernel) rfl, bg4 92 (by decide +kernel) rfl, bg4 91 (by decide +kernel) rfl, bg1 15 (by decide +kernel) rfl⟩
