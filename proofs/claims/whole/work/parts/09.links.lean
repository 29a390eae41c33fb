theorem TT_priv {w : Cond} (i : Nat) (h : (k2_sels lw_privs)[i]? = some w) (hg : goodWord w = true) : w ∈ TT := TT_of (List.mem_append_left _ (List.mem_of_getElem? h)) hg
theorem TT_tb {w : Cond} (h : w ∈ tables_1) (hg : goodWord w = true) : w ∈ TT := TT_of (List.mem_append_right _ h) hg
theorem TT_1 {w : Cond} (i : Nat) (h : tables_1_1[i]? = some w) (hg : goodWord w = true) : w ∈ TT := TT_tb (List.mem_append_left _ (List.mem_of_getElem? h)) hg
theorem TT_2 {w : Cond} (i : Nat) (h : tables_1_2[i]? = some w) (hg : goodWord w = true) : w ∈ TT := TT_tb (List.mem_append_right _ (List.mem_append_left _ (List.mem_of_getElem? h))) hg
theorem TT_3 {w : Cond} (i : Nat) (h : tables_1_3[i]? = some w) (hg : goodWord w = true) : w ∈ TT := TT_tb (List.mem_append_right _ (List.mem_append_right _ (List.mem_append_left _ (List.mem_of_getElem? h)))) hg
theorem TT_4 {w : Cond} (i : Nat) (h : tables_1_4[i]? = some w) (hg : goodWord w = true) : w ∈ TT := TT_tb (List.mem_append_right _ (List.mem_append_right _ (List.mem_append_right _ (List.mem_append_left _ (List.mem_of_getElem? h))))) hg
theorem TT_5 {w : Cond} (i : Nat) (h : tables_1_5[i]? = some w) (hg : goodWord w = true) : w ∈ TT := TT_tb (List.mem_append_right _ (List.mem_append_right _ (List.mem_append_right _ (List.mem_append_right _ (List.mem_append_left _ (List.mem_of_getElem? h)))))) hg
theorem TT_6 {w : Cond} (i : Nat) (h : tables_1_6[i]? = some w) (hg : goodWord w = true) : w ∈ TT := TT_tb (List.mem_append_right _ (List.mem_append_right _ (List.mem_append_right _ (List.mem_append_right _ (List.mem_append_right _ (List.mem_append_left _ (List.mem_of_getElem? h))))))) hg
theorem TT_7 {w : Cond} (i : Nat) (h : tables_1_7[i]? = some w) (hg : goodWord w = true) : w ∈ TT := TT_tb (List.mem_append_right _ (List.mem_append_right _ (List.mem_append_right _ (List.mem_append_right _ (List.mem_append_right _ (List.mem_append_right _ (List.mem_append_left _ (List.mem_of_getElem? h)))))))) hg
theorem TT_8 {w : Cond} (i : Nat) (h : tables_1_8[i]? = some w) (hg : goodWord w = true) : w ∈ TT := TT_tb (List.mem_append_right _ (List.mem_append_right _ (List.mem_append_right _ (List.mem_append_right _ (List.mem_append_right _ (List.mem_append_right _ (List.mem_append_right _ (List.mem_of_getElem? h)))))))) hg
theorem inT_of {C : String} {T : u_T} {N : Nat} (h : ∀ k, k < N → u_lay C T k ∈ TT) : ∀ w ∈ u_ws C T N, w ∈ TT := by
  intro w hw
  obtain ⟨k, hk, rfl⟩ := List.mem_map.mp hw
  exact h k (List.mem_range.mp hk)
set_option maxRecDepth 20000 in
theorem lay_X0_0 : u_lay RX0 TX0 0 ∈ TT := TT_1 88 rfl rfl
set_option maxRecDepth 20000 in
theorem lay_X0_1 : u_lay RX0 TX0 1 ∈ TT := TT_1 90 rfl rfl
set_option maxRecDepth 20000 in
theorem lay_X0_2 : u_lay RX0 TX0 2 ∈ TT := TT_1 92 rfl rfl
set_option maxRecDepth 20000 in
theorem lay_X0_3 : u_lay RX0 TX0 3 ∈ TT := TT_1 94 rfl rfl
set_option maxRecDepth 20000 in
theorem lay_X0_4 : u_lay RX0 TX0 4 ∈ TT := TT_1 96 rfl rfl
set_option maxRecDepth 20000 in
theorem inTX0 : ∀ w ∈ u_ws RX0 TX0 5, w ∈ TT := inT_of (fun k hk => match k, hk with | 0, _ => lay_X0_0 | 1, _ => lay_X0_1 | 2, _ => lay_X0_2 | 3, _ => lay_X0_3 | 4, _ => lay_X0_4 | (k + 5), hk => absurd hk (by omega))
set_option maxRecDepth 20000 in
theorem lay_X1_0 : u_lay RX1 TX1 0 ∈ TT := TT_6 18 rfl rfl
set_option maxRecDepth 20000 in
theorem lay_X1_1 : u_lay RX1 TX1 1 ∈ TT := TT_6 20 rfl rfl
set_option maxRecDepth 20000 in
theorem lay_X1_2 : u_lay RX1 TX1 2 ∈ TT := TT_6 22 rfl rfl
set_option maxRecDepth 20000 in
theorem lay_X1_3 : u_lay RX1 TX1 3 ∈ TT := TT_6 24 rfl rfl
set_option maxRecDepth 20000 in
theorem lay_X1_4 : u_lay RX1 TX1 4 ∈ TT := TT_6 26 rfl rfl
set_option maxRecDepth 20000 in
theorem lay_X1_5 : u_lay RX1 TX1 5 ∈ TT := TT_6 28 rfl rfl
set_option maxRecDepth 20000 in
theorem lay_X1_6 : u_lay RX1 TX1 6 ∈ TT := TT_6 30 rfl rfl
set_option maxRecDepth 20000 in
theorem lay_X1_7 : u_lay RX1 TX1 7 ∈ TT := TT_6 32 rfl rfl
set_option maxRecDepth 20000 in
theorem lay_X1_8 : u_lay RX1 TX1 8 ∈ TT := TT_6 34 rfl rfl
set_option maxRecDepth 20000 in
theorem lay_X1_9 : u_lay RX1 TX1 9 ∈ TT := TT_6 36 rfl rfl
set_option maxRecDepth 20000 in
theorem lay_X1_10 : u_lay RX1 TX1 10 ∈ TT := TT_6 38 rfl rfl
set_option maxRecDepth 20000 in
theorem inTX1 : ∀ w ∈ u_ws RX1 TX1 11, w ∈ TT := inT_of (fun k hk => match k, hk with | 0, _ => lay_X1_0 | 1, _ => lay_X1_1 | 2, _ => lay_X1_2 | 3, _ => lay_X1_3 | 4, _ => lay_X1_4 | 5, _ => lay_X1_5 | 6, _ => lay_X1_6 | 7, _ => lay_X1_7 | 8, _ => lay_X1_8 | 9, _ => lay_X1_9 | 10, _ => lay_X1_10 | (k + 11), hk => absurd hk (by omega))
set_option maxRecDepth 20000 in
theorem lay_X2_0 : u_lay RX2 TX2 0 ∈ TT := TT_4 188 rfl rfl
set_option maxRecDepth 20000 in
theorem lay_X2_1 : u_lay RX2 TX2 1 ∈ TT := TT_4 190 rfl rfl
set_option maxRecDepth 20000 in
theorem lay_X2_2 : u_lay RX2 TX2 2 ∈ TT := TT_4 192 rfl rfl
set_option maxRecDepth 20000 in
theorem lay_X2_3 : u_lay RX2 TX2 3 ∈ TT := TT_4 194 rfl rfl
set_option maxRecDepth 20000 in
theorem lay_X2_4 : u_lay RX2 TX2 4 ∈ TT := TT_4 196 rfl rfl
set_option maxRecDepth 20000 in
theorem lay_X2_5 : u_lay RX2 TX2 5 ∈ TT := TT_4 198 rfl rfl
set_option maxRecDepth 20000 in
theorem lay_X2_6 : u_lay RX2 TX2 6 ∈ TT := TT_4 200 rfl rfl
set_option maxRecDepth 20000 in
theorem lay_X2_7 : u_lay RX2 TX2 7 ∈ TT := TT_4 202 rfl rfl
set_option maxRecDepth 20000 in
theorem lay_X2_8 : u_lay RX2 TX2 8 ∈ TT := TT_4 204 rfl rfl
set_option maxRecDepth 20000 in
theorem lay_X2_9 : u_lay RX2 TX2 9 ∈ TT := TT_4 206 rfl rfl
set_option maxRecDepth 20000 in
theorem lay_X2_10 : u_lay RX2 TX2 10 ∈ TT := TT_4 208 rfl rfl
set_option maxRecDepth 20000 in
theorem lay_X2_11 : u_lay RX2 TX2 11 ∈ TT := TT_4 210 rfl rfl
set_option maxRecDepth 20000 in
theorem lay_X2_12 : u_lay RX2 TX2 12 ∈ TT := TT_4 212 rfl rfl
set_option maxRecDepth 20000 in
theorem lay_X2_13 : u_lay RX2 TX2 13 ∈ TT := TT_4 214 rfl rfl
set_option maxRecDepth 20000 in
theorem lay_X2_14 : u_lay RX2 TX2 14 ∈ TT := TT_4 216 rfl rfl
set_option maxRecDepth 20000 in
theorem lay_X2_15 : u_lay RX2 TX2 15 ∈ TT := TT_4 218 rfl rfl
set_option maxRecDepth 20000 in
theorem lay_X2_16 : u_lay RX2 TX2 16 ∈ TT := TT_4 220 rfl rfl
set_option maxRecDepth 20000 in
theorem inTX2 : ∀ w ∈ u_ws RX2 TX2 17, w ∈ TT := inT_of (fun k hk => match k, hk with | 0, _ => lay_X2_0 | 1, _ => lay_X2_1 | 2, _ => lay_X2_2 | 3, _ => lay_X2_3 | 4, _ => lay_X2_4 | 5, _ => lay_X2_5 | 6, _ => lay_X2_6 | 7, _ => lay_X2_7 | 8, _ => lay_X2_8 | 9, _ => lay_X2_9 | 10, _ => lay_X2_10 | 11, _ => lay_X2_11 | 12, _ => lay_X2_12 | 13, _ => lay_X2_13 | 14, _ => lay_X2_14 | 15, _ => lay_X2_15 | 16, _ => lay_X2_16 | (k + 17), hk => absurd hk (by omega))
set_option maxRecDepth 20000 in
theorem lay_X3_0 : u_lay RX3 TX3 0 ∈ TT := TT_4 162 rfl rfl
set_option maxRecDepth 20000 in
theorem lay_X3_1 : u_lay RX3 TX3 1 ∈ TT := TT_4 164 rfl rfl
set_option maxRecDepth 20000 in
theorem lay_X3_2 : u_lay RX3 TX3 2 ∈ TT := TT_4 166 rfl rfl
set_option maxRecDepth 20000 in
theorem inTX3 : ∀ w ∈ u_ws RX3 TX3 3, w ∈ TT := inT_of (fun k hk => match k, hk with | 0, _ => lay_X3_0 | 1, _ => lay_X3_1 | 2, _ => lay_X3_2 | (k + 3), hk => absurd hk (by omega))
set_option maxRecDepth 20000 in
theorem lay_X4_0 : u_lay RX4 TX4 0 ∈ TT := TT_3 157 rfl rfl
set_option maxRecDepth 20000 in
theorem lay_X4_1 : u_lay RX4 TX4 1 ∈ TT := TT_3 159 rfl rfl
set_option maxRecDepth 20000 in
theorem inTX4 : ∀ w ∈ u_ws RX4 TX4 2, w ∈ TT := inT_of (fun k hk => match k, hk with | 0, _ => lay_X4_0 | 1, _ => lay_X4_1 | (k + 2), hk => absurd hk (by omega))
set_option maxRecDepth 20000 in
theorem lay_X5_0 : u_lay RX5 TX5 0 ∈ TT := TT_3 72 rfl rfl
set_option maxRecDepth 20000 in
theorem lay_X5_1 : u_lay RX5 TX5 1 ∈ TT := TT_3 74 rfl rfl
set_option maxRecDepth 20000 in
theorem lay_X5_2 : u_lay RX5 TX5 2 ∈ TT := TT_3 76 rfl rfl
set_option maxRecDepth 20000 in
theorem lay_X5_3 : u_lay RX5 TX5 3 ∈ TT := TT_3 78 rfl rfl
set_option maxRecDepth 20000 in
theorem inTX5 : ∀ w ∈ u_ws RX5 TX5 4, w ∈ TT := inT_of (fun k hk => match k, hk with | 0, _ => lay_X5_0 | 1, _ => lay_X5_1 | 2, _ => lay_X5_2 | 3, _ => lay_X5_3 | (k + 4), hk => absurd hk (by omega))
set_option maxRecDepth 20000 in
theorem lay_X6_0 : u_lay RX6 TX6 0 ∈ TT := TT_1 120 rfl rfl
set_option maxRecDepth 20000 in
theorem lay_X6_1 : u_lay RX6 TX6 1 ∈ TT := TT_1 122 rfl rfl
set_option maxRecDepth 20000 in
theorem lay_X6_2 : u_lay RX6 TX6 2 ∈ TT := TT_1 124 rfl rfl
set_option maxRecDepth 20000 in
theorem inTX6 : ∀ w ∈ u_ws RX6 TX6 3, w ∈ TT := inT_of (fun k hk => match k, hk with | 0, _ => lay_X6_0 | 1, _ => lay_X6_1 | 2, _ => lay_X6_2 | (k + 3), hk => absurd hk (by omega))
set_option maxRecDepth 20000 in
theorem lay_X7_0 : u_lay RX7 TX7 0 ∈ TT := TT_1 51 rfl rfl
set_option maxRecDepth 20000 in
theorem lay_X7_1 : u_lay RX7 TX7 1 ∈ TT := TT_1 53 rfl rfl
set_option maxRecDepth 20000 in
theorem lay_X7_2 : u_lay RX7 TX7 2 ∈ TT := TT_1 55 rfl rfl
set_option maxRecDepth 20000 in
theorem lay_X7_3 : u_lay RX7 TX7 3 ∈ TT := TT_1 57 rfl rfl
set_option maxRecDepth 20000 in
theorem lay_X7_4 : u_lay RX7 TX7 4 ∈ TT := TT_1 59 rfl rfl
set_option maxRecDepth 20000 in
theorem lay_X7_5 : u_lay RX7 TX7 5 ∈ TT := TT_1 61 rfl rfl
set_option maxRecDepth 20000 in
theorem lay_X7_6 : u_lay RX7 TX7 6 ∈ TT := TT_1 63 rfl rfl
set_option maxRecDepth 20000 in
theorem inTX7 : ∀ w ∈ u_ws RX7 TX7 7, w ∈ TT := inT_of (fun k hk => match k, hk with | 0, _ => lay_X7_0 | 1, _ => lay_X7_1 | 2, _ => lay_X7_2 | 3, _ => lay_X7_3 | 4, _ => lay_X7_4 | 5, _ => lay_X7_5 | 6, _ => lay_X7_6 | (k + 7), hk => absurd hk (by omega))
set_option maxRecDepth 20000 in
theorem lay_X8_0 : u_lay RX8 TX8 0 ∈ TT := TT_1 173 rfl rfl
set_option maxRecDepth 20000 in
theorem lay_X8_1 : u_lay RX8 TX8 1 ∈ TT := TT_1 175 rfl rfl
set_option maxRecDepth 20000 in
theorem lay_X8_2 : u_lay RX8 TX8 2 ∈ TT := TT_1 177 rfl rfl
set_option maxRecDepth 20000 in
theorem lay_X8_3 : u_lay RX8 TX8 3 ∈ TT := TT_1 179 rfl rfl
set_option maxRecDepth 20000 in
theorem lay_X8_4 : u_lay RX8 TX8 4 ∈ TT := TT_1 181 rfl rfl
set_option maxRecDepth 20000 in
theorem lay_X8_5 : u_lay RX8 TX8 5 ∈ TT := TT_1 183 rfl rfl
set_option maxRecDepth 20000 in
theorem lay_X8_6 : u_lay RX8 TX8 6 ∈ TT := TT_1 185 rfl rfl
set_option maxRecDepth 20000 in
theorem lay_X8_7 : u_lay RX8 TX8 7 ∈ TT := TT_1 187 rfl rfl
set_option maxRecDepth 20000 in
theorem lay_X8_8 : u_lay RX8 TX8 8 ∈ TT := TT_1 189 rfl rfl
set_option maxRecDepth 20000 in
theorem lay_X8_9 : u_lay RX8 TX8 9 ∈ TT := TT_1 191 rfl rfl
set_option maxRecDepth 20000 in
theorem lay_X8_10 : u_lay RX8 TX8 10 ∈ TT := TT_1 193 rfl rfl
set_option maxRecDepth 20000 in
theorem inTX8 : ∀ w ∈ u_ws RX8 TX8 11, w ∈ TT := inT_of (fun k hk => match k, hk with | 0, _ => lay_X8_0 | 1, _ => lay_X8_1 | 2, _ => lay_X8_2 | 3, _ => lay_X8_3 | 4, _ => lay_X8_4 | 5, _ => lay_X8_5 | 6, _ => lay_X8_6 | 7, _ => lay_X8_7 | 8, _ => lay_X8_8 | 9, _ => lay_X8_9 | 10, _ => lay_X8_10 | (k + 11), hk => absurd hk (by omega))
set_option maxRecDepth 20000 in
theorem lay_X9_0 : u_lay RX9 TX9 0 ∈ TT := TT_5 171 rfl rfl
set_option maxRecDepth 20000 in
theorem lay_X9_1 : u_lay RX9 TX9 1 ∈ TT := TT_5 173 rfl rfl
set_option maxRecDepth 20000 in
theorem lay_X9_2 : u_lay RX9 TX9 2 ∈ TT := TT_5 175 rfl rfl
set_option maxRecDepth 20000 in
theorem inTX9 : ∀ w ∈ u_ws RX9 TX9 3, w ∈ TT := inT_of (fun k hk => match k, hk with | 0, _ => lay_X9_0 | 1, _ => lay_X9_1 | 2, _ => lay_X9_2 | (k + 3), hk => absurd hk (by omega))
set_option maxRecDepth 20000 in
theorem lay_X10_0 : u_lay RX10 TX10 0 ∈ TT := TT_1 208 rfl rfl
set_option maxRecDepth 20000 in
theorem lay_X10_1 : u_lay RX10 TX10 1 ∈ TT := TT_1 210 rfl rfl
set_option maxRecDepth 20000 in
theorem lay_X10_2 : u_lay RX10 TX10 2 ∈ TT := TT_1 212 rfl rfl
set_option maxRecDepth 20000 in
theorem inTX10 : ∀ w ∈ u_ws RX10 TX10 3, w ∈ TT := inT_of (fun k hk => match k, hk with | 0, _ => lay_X10_0 | 1, _ => lay_X10_1 | 2, _ => lay_X10_2 | (k + 3), hk => absurd hk (by omega))
set_option maxRecDepth 20000 in
theorem lay_X11_0 : u_lay RX11 TX11 0 ∈ TT := TT_1 228 rfl rfl
set_option maxRecDepth 20000 in
theorem lay_X11_1 : u_lay RX11 TX11 1 ∈ TT := TT_1 230 rfl rfl
set_option maxRecDepth 20000 in
theorem lay_X11_2 : u_lay RX11 TX11 2 ∈ TT := TT_1 232 rfl rfl
set_option maxRecDepth 20000 in
theorem lay_X11_3 : u_lay RX11 TX11 3 ∈ TT := TT_1 234 rfl rfl
set_option maxRecDepth 20000 in
theorem lay_X11_4 : u_lay RX11 TX11 4 ∈ TT := TT_1 236 rfl rfl
set_option maxRecDepth 20000 in
theorem lay_X11_5 : u_lay RX11 TX11 5 ∈ TT := TT_1 238 rfl rfl
set_option maxRecDepth 20000 in
theorem lay_X11_6 : u_lay RX11 TX11 6 ∈ TT := TT_2 0 rfl rfl
set_option maxRecDepth 20000 in
theorem lay_X11_7 : u_lay RX11 TX11 7 ∈ TT := TT_2 2 rfl rfl
set_option maxRecDepth 20000 in
theorem lay_X11_8 : u_lay RX11 TX11 8 ∈ TT := TT_2 4 rfl rfl
set_option maxRecDepth 20000 in
theorem lay_X11_9 : u_lay RX11 TX11 9 ∈ TT := TT_2 6 rfl rfl
set_option maxRecDepth 20000 in
theorem lay_X11_10 : u_lay RX11 TX11 10 ∈ TT := TT_2 8 rfl rfl
set_option maxRecDepth 20000 in
theorem inTX11 : ∀ w ∈ u_ws RX11 TX11 11, w ∈ TT := inT_of (fun k hk => match k, hk with | 0, _ => lay_X11_0 | 1, _ => lay_X11_1 | 2, _ => lay_X11_2 | 3, _ => lay_X11_3 | 4, _ => lay_X11_4 | 5, _ => lay_X11_5 | 6, _ => lay_X11_6 | 7, _ => lay_X11_7 | 8, _ => lay_X11_8 | 9, _ => lay_X11_9 | 10, _ => lay_X11_10 | (k + 11), hk => absurd hk (by omega))
set_option maxRecDepth 20000 in
theorem lay_X12_0 : u_lay RX12 TX12 0 ∈ TT := TT_6 148 rfl rfl
set_option maxRecDepth 20000 in
theorem lay_X12_1 : u_lay RX12 TX12 1 ∈ TT := TT_6 150 rfl rfl
set_option maxRecDepth 20000 in
theorem lay_X12_2 : u_lay RX12 TX12 2 ∈ TT := TT_6 152 rfl rfl
set_option maxRecDepth 20000 in
theorem lay_X12_3 : u_lay RX12 TX12 3 ∈ TT := TT_6 154 rfl rfl
set_option maxRecDepth 20000 in
theorem lay_X12_4 : u_lay RX12 TX12 4 ∈ TT := TT_6 156 rfl rfl
set_option maxRecDepth 20000 in
theorem lay_X12_5 : u_lay RX12 TX12 5 ∈ TT := TT_6 158 rfl rfl
set_option maxRecDepth 20000 in
theorem lay_X12_6 : u_lay RX12 TX12 6 ∈ TT := TT_6 160 rfl rfl
set_option maxRecDepth 20000 in
theorem lay_X12_7 : u_lay RX12 TX12 7 ∈ TT := TT_6 162 rfl rfl
set_option maxRecDepth 20000 in
theorem lay_X12_8 : u_lay RX12 TX12 8 ∈ TT := TT_6 164 rfl rfl
set_option maxRecDepth 20000 in
theorem lay_X12_9 : u_lay RX12 TX12 9 ∈ TT := TT_6 166 rfl rfl
set_option maxRecDepth 20000 in
theorem lay_X12_10 : u_lay RX12 TX12 10 ∈ TT := TT_6 168 rfl rfl
set_option maxRecDepth 20000 in
theorem lay_X12_11 : u_lay RX12 TX12 11 ∈ TT := TT_6 170 rfl rfl
set_option maxRecDepth 20000 in
theorem lay_X12_12 : u_lay RX12 TX12 12 ∈ TT := TT_6 172 rfl rfl
set_option maxRecDepth 20000 in
theorem lay_X12_13 : u_lay RX12 TX12 13 ∈ TT := TT_6 174 rfl rfl
set_option maxRecDepth 20000 in
theorem lay_X12_14 : u_lay RX12 TX12 14 ∈ TT := TT_6 176 rfl rfl
set_option maxRecDepth 20000 in
theorem lay_X12_15 : u_lay RX12 TX12 15 ∈ TT := TT_6 178 rfl rfl
set_option maxRecDepth 20000 in
theorem lay_X12_16 : u_lay RX12 TX12 16 ∈ TT := TT_6 180 rfl rfl
set_option maxRecDepth 20000 in
theorem lay_X12_17 : u_lay RX12 TX12 17 ∈ TT := TT_6 182 rfl rfl
set_option maxRecDepth 20000 in
theorem lay_X12_18 : u_lay RX12 TX12 18 ∈ TT := TT_6 184 rfl rfl
set_option maxRecDepth 20000 in
theorem lay_X12_19 : u_lay RX12 TX12 19 ∈ TT := TT_6 186 rfl rfl
set_option maxRecDepth 20000 in
theorem lay_X12_20 : u_lay RX12 TX12 20 ∈ TT := TT_6 188 rfl rfl
set_option maxRecDepth 20000 in
theorem lay_X12_21 : u_lay RX12 TX12 21 ∈ TT := TT_6 190 rfl rfl
set_option maxRecDepth 20000 in
theorem lay_X12_22 : u_lay RX12 TX12 22 ∈ TT := TT_6 192 rfl rfl
set_option maxRecDepth 20000 in
theorem lay_X12_23 : u_lay RX12 TX12 23 ∈ TT := TT_6 194 rfl rfl
set_option maxRecDepth 20000 in
theorem lay_X12_24 : u_lay RX12 TX12 24 ∈ TT := TT_6 196 rfl rfl
set_option maxRecDepth 20000 in
theorem lay_X12_25 : u_lay RX12 TX12 25 ∈ TT := TT_6 198 rfl rfl
set_option maxRecDepth 20000 in
theorem lay_X12_26 : u_lay RX12 TX12 26 ∈ TT := TT_6 200 rfl rfl
set_option maxRecDepth 20000 in
theorem lay_X12_27 : u_lay RX12 TX12 27 ∈ TT := TT_6 202 rfl rfl
set_option maxRecDepth 20000 in
theorem lay_X12_28 : u_lay RX12 TX12 28 ∈ TT := TT_6 204 rfl rfl
set_option maxRecDepth 20000 in
theorem lay_X12_29 : u_lay RX12 TX12 29 ∈ TT := TT_6 206 rfl rfl
set_option maxRecDepth 20000 in
theorem lay_X12_30 : u_lay RX12 TX12 30 ∈ TT := TT_6 208 rfl rfl
set_option maxRecDepth 20000 in
theorem lay_X12_31 : u_lay RX12 TX12 31 ∈ TT := TT_6 210 rfl rfl
set_option maxRecDepth 20000 in
theorem inTX12 : ∀ w ∈ u_ws RX12 TX12 32, w ∈ TT := inT_of (fun k hk => match k, hk with | 0, _ => lay_X12_0 | 1, _ => lay_X12_1 | 2, _ => lay_X12_2 | 3, _ => lay_X12_3 | 4, _ => lay_X12_4 | 5, _ => lay_X12_5 | 6, _ => lay_X12_6 | 7, _ => lay_X12_7 | 8, _ => lay_X12_8 | 9, _ => lay_X12_9 | 10, _ => lay_X12_10 | 11, _ => lay_X12_11 | 12, _ => lay_X12_12 | 13, _ => lay_X12_13 | 14, _ => lay_X12_14 | 15, _ => lay_X12_15 | 16, _ => lay_X12_16 | 17, _ => lay_X12_17 | 18, _ => lay_X12_18 | 19, _ => lay_X12_19 | 20, _ => lay_X12_20 | 21, _ => lay_X12_21 | 22, _ => lay_X12_22 | 23, _ => lay_X12_23 | 24, _ => lay_X12_24 | 25, _ => lay_X12_25 | 26, _ => lay_X12_26 | 27, _ => lay_X12_27 | 28, _ => lay_X12_28 | 29, _ => lay_X12_29 | 30, _ => lay_X12_30 | 31, _ => lay_X12_31 | (k + 32), hk => absurd hk (by omega))
set_option maxRecDepth 20000 in
theorem ft_X0_0 : FT 0 0 (.array .int) true := ⟨_, _, _, rfl, tyX0_ok 0 (by decide), rfl⟩
set_option maxRecDepth 20000 in
theorem ft_X0_1 : FT 0 1 .int false := ⟨_, _, _, rfl, tyX0_ok 1 (by decide), rfl⟩
set_option maxRecDepth 20000 in
theorem ft_X0_2 : FT 0 2 .int false := ⟨_, _, _, rfl, tyX0_ok 2 (by decide), rfl⟩
set_option maxRecDepth 20000 in
theorem ft_X0_3 : FT 0 3 .int false := ⟨_, _, _, rfl, tyX0_ok 3 (by decide), rfl⟩
set_option maxRecDepth 20000 in
theorem ft_X0_4 : FT 0 4 .int false := ⟨_, _, _, rfl, tyX0_ok 4 (by decide), rfl⟩
set_option maxRecDepth 20000 in
theorem ft_X1_0 : FT 1 0 (.object "ChaseCourt$Score") true := ⟨_, _, _, rfl, tyX1_ok 0 (by decide), rfl⟩
set_option maxRecDepth 20000 in
theorem ft_X1_1 : FT 1 1 (.object "ChaseCourt$Score") true := ⟨_, _, _, rfl, tyX1_ok 1 (by decide), rfl⟩
set_option maxRecDepth 20000 in
theorem ft_X1_2 : FT 1 2 (.object "ChaseCourt$Places") false := ⟨_, _, _, rfl, tyX1_ok 2 (by decide), rfl⟩
set_option maxRecDepth 20000 in
theorem ft_X1_3 : FT 1 3 (.object "ChaseCourt$Places") false := ⟨_, _, _, rfl, tyX1_ok 3 (by decide), rfl⟩
set_option maxRecDepth 20000 in
theorem ft_X1_4 : FT 1 4 (.array .int) false := ⟨_, _, _, rfl, tyX1_ok 4 (by decide), rfl⟩
set_option maxRecDepth 20000 in
theorem ft_X1_5 : FT 1 5 (.array .int) false := ⟨_, _, _, rfl, tyX1_ok 5 (by decide), rfl⟩
set_option maxRecDepth 20000 in
theorem ft_X1_6 : FT 1 6 (.array .long) false := ⟨_, _, _, rfl, tyX1_ok 6 (by decide), rfl⟩
set_option maxRecDepth 20000 in
theorem ft_X1_7 : FT 1 7 (.array .long) false := ⟨_, _, _, rfl, tyX1_ok 7 (by decide), rfl⟩
set_option maxRecDepth 20000 in
theorem ft_X1_8 : FT 1 8 (.object "ChaseCourt$Stand") false := ⟨_, _, _, rfl, tyX1_ok 8 (by decide), rfl⟩
set_option maxRecDepth 20000 in
theorem ft_X1_9 : FT 1 9 .int false := ⟨_, _, _, rfl, tyX1_ok 9 (by decide), rfl⟩
set_option maxRecDepth 20000 in
theorem ft_X1_10 : FT 1 10 .long false := ⟨_, _, _, rfl, tyX1_ok 10 (by decide), rfl⟩
set_option maxRecDepth 20000 in
theorem ft_X2_0 : FT 2 0 (.object "ChaseCourt$Places") true := ⟨_, _, _, rfl, tyX2_ok 0 (by decide), rfl⟩
set_option maxRecDepth 20000 in
theorem ft_X2_1 : FT 2 1 (.object "ChaseCourt$Score") true := ⟨_, _, _, rfl, tyX2_ok 1 (by decide), rfl⟩
set_option maxRecDepth 20000 in
theorem ft_X2_2 : FT 2 2 (.object "ChaseCourt$Score") true := ⟨_, _, _, rfl, tyX2_ok 2 (by decide), rfl⟩
set_option maxRecDepth 20000 in
theorem ft_X2_3 : FT 2 3 (.array .int) true := ⟨_, _, _, rfl, tyX2_ok 3 (by decide), rfl⟩
set_option maxRecDepth 20000 in
theorem ft_X2_4 : FT 2 4 (.array .int) true := ⟨_, _, _, rfl, tyX2_ok 4 (by decide), rfl⟩
set_option maxRecDepth 20000 in
theorem ft_X2_5 : FT 2 5 (.array .int) false := ⟨_, _, _, rfl, tyX2_ok 5 (by decide), rfl⟩
set_option maxRecDepth 20000 in
theorem ft_X2_6 : FT 2 6 (.array .int) false := ⟨_, _, _, rfl, tyX2_ok 6 (by decide), rfl⟩
set_option maxRecDepth 20000 in
theorem ft_X2_7 : FT 2 7 (.array .int) false := ⟨_, _, _, rfl, tyX2_ok 7 (by decide), rfl⟩
set_option maxRecDepth 20000 in
theorem ft_X2_8 : FT 2 8 .int false := ⟨_, _, _, rfl, tyX2_ok 8 (by decide), rfl⟩
set_option maxRecDepth 20000 in
theorem ft_X2_9 : FT 2 9 .int false := ⟨_, _, _, rfl, tyX2_ok 9 (by decide), rfl⟩
set_option maxRecDepth 20000 in
theorem ft_X2_10 : FT 2 10 .int false := ⟨_, _, _, rfl, tyX2_ok 10 (by decide), rfl⟩
set_option maxRecDepth 20000 in
theorem ft_X2_11 : FT 2 11 .int false := ⟨_, _, _, rfl, tyX2_ok 11 (by decide), rfl⟩
set_option maxRecDepth 20000 in
theorem ft_X2_12 : FT 2 12 (.object "ChaseCourt$Stand") false := ⟨_, _, _, rfl, tyX2_ok 12 (by decide), rfl⟩
set_option maxRecDepth 20000 in
theorem ft_X2_13 : FT 2 13 (.array .int) false := ⟨_, _, _, rfl, tyX2_ok 13 (by decide), rfl⟩
set_option maxRecDepth 20000 in
theorem ft_X2_14 : FT 2 14 (.array .int) false := ⟨_, _, _, rfl, tyX2_ok 14 (by decide), rfl⟩
set_option maxRecDepth 20000 in
theorem ft_X2_15 : FT 2 15 (.array .int) false := ⟨_, _, _, rfl, tyX2_ok 15 (by decide), rfl⟩
set_option maxRecDepth 20000 in
theorem ft_X2_16 : FT 2 16 (.array .int) false := ⟨_, _, _, rfl, tyX2_ok 16 (by decide), rfl⟩
set_option maxRecDepth 20000 in
theorem ft_X3_0 : FT 3 0 (.array .int) false := ⟨_, _, _, rfl, tyX3_ok 0 (by decide), rfl⟩
set_option maxRecDepth 20000 in
theorem ft_X3_1 : FT 3 1 (.array .int) false := ⟨_, _, _, rfl, tyX3_ok 1 (by decide), rfl⟩
set_option maxRecDepth 20000 in
theorem ft_X3_2 : FT 3 2 .int false := ⟨_, _, _, rfl, tyX3_ok 2 (by decide), rfl⟩
set_option maxRecDepth 20000 in
theorem ft_X4_0 : FT 4 0 (.array .int) true := ⟨_, _, _, rfl, tyX4_ok 0 (by decide), rfl⟩
set_option maxRecDepth 20000 in
theorem ft_X4_1 : FT 4 1 (.array .int) true := ⟨_, _, _, rfl, tyX4_ok 1 (by decide), rfl⟩
set_option maxRecDepth 20000 in
theorem ft_X5_0 : FT 5 0 (.array .int) true := ⟨_, _, _, rfl, tyX5_ok 0 (by decide), rfl⟩
set_option maxRecDepth 20000 in
theorem ft_X5_1 : FT 5 1 .int false := ⟨_, _, _, rfl, tyX5_ok 1 (by decide), rfl⟩
set_option maxRecDepth 20000 in
theorem ft_X5_2 : FT 5 2 .int false := ⟨_, _, _, rfl, tyX5_ok 2 (by decide), rfl⟩
set_option maxRecDepth 20000 in
theorem ft_X5_3 : FT 5 3 (.object "ChaseCourt$Scanner") false := ⟨_, _, _, rfl, tyX5_ok 3 (by decide), rfl⟩
set_option maxRecDepth 20000 in
theorem ft_X6_0 : FT 6 0 (.array .int) true := ⟨_, _, _, rfl, tyX6_ok 0 (by decide), rfl⟩
set_option maxRecDepth 20000 in
theorem ft_X6_1 : FT 6 1 (.array (.object "ChaseCourt$Rule")) true := ⟨_, _, _, rfl, tyX6_ok 1 (by decide), rfl⟩
set_option maxRecDepth 20000 in
theorem ft_X6_2 : FT 6 2 .int false := ⟨_, _, _, rfl, tyX6_ok 2 (by decide), rfl⟩
set_option maxRecDepth 20000 in
theorem ft_X7_0 : FT 7 0 (.array .int) true := ⟨_, _, _, rfl, tyX7_ok 0 (by decide), rfl⟩
set_option maxRecDepth 20000 in
theorem ft_X7_1 : FT 7 1 (.array .int) true := ⟨_, _, _, rfl, tyX7_ok 1 (by decide), rfl⟩
set_option maxRecDepth 20000 in
theorem ft_X7_2 : FT 7 2 (.array .int) true := ⟨_, _, _, rfl, tyX7_ok 2 (by decide), rfl⟩
set_option maxRecDepth 20000 in
theorem ft_X7_3 : FT 7 3 (.array .byte) false := ⟨_, _, _, rfl, tyX7_ok 3 (by decide), rfl⟩
set_option maxRecDepth 20000 in
theorem ft_X7_4 : FT 7 4 .int false := ⟨_, _, _, rfl, tyX7_ok 4 (by decide), rfl⟩
set_option maxRecDepth 20000 in
theorem ft_X7_5 : FT 7 5 .int false := ⟨_, _, _, rfl, tyX7_ok 5 (by decide), rfl⟩
set_option maxRecDepth 20000 in
theorem ft_X7_6 : FT 7 6 .int false := ⟨_, _, _, rfl, tyX7_ok 6 (by decide), rfl⟩
set_option maxRecDepth 20000 in
theorem ft_X8_0 : FT 8 0 .int false := ⟨_, _, _, rfl, tyX8_ok 0 (by decide), rfl⟩
set_option maxRecDepth 20000 in
theorem ft_X8_1 : FT 8 1 .int false := ⟨_, _, _, rfl, tyX8_ok 1 (by decide), rfl⟩
set_option maxRecDepth 20000 in
theorem ft_X8_2 : FT 8 2 .int false := ⟨_, _, _, rfl, tyX8_ok 2 (by decide), rfl⟩
set_option maxRecDepth 20000 in
theorem ft_X8_3 : FT 8 3 .int false := ⟨_, _, _, rfl, tyX8_ok 3 (by decide), rfl⟩
set_option maxRecDepth 20000 in
theorem ft_X8_4 : FT 8 4 .int false := ⟨_, _, _, rfl, tyX8_ok 4 (by decide), rfl⟩
set_option maxRecDepth 20000 in
theorem ft_X8_5 : FT 8 5 .int false := ⟨_, _, _, rfl, tyX8_ok 5 (by decide), rfl⟩
set_option maxRecDepth 20000 in
theorem ft_X8_6 : FT 8 6 .boolean false := ⟨_, _, _, rfl, tyX8_ok 6 (by decide), rfl⟩
set_option maxRecDepth 20000 in
theorem ft_X8_7 : FT 8 7 .int false := ⟨_, _, _, rfl, tyX8_ok 7 (by decide), rfl⟩
set_option maxRecDepth 20000 in
theorem ft_X8_8 : FT 8 8 .int false := ⟨_, _, _, rfl, tyX8_ok 8 (by decide), rfl⟩
set_option maxRecDepth 20000 in
theorem ft_X8_9 : FT 8 9 .int false := ⟨_, _, _, rfl, tyX8_ok 9 (by decide), rfl⟩
set_option maxRecDepth 20000 in
theorem ft_X8_10 : FT 8 10 .int false := ⟨_, _, _, rfl, tyX8_ok 10 (by decide), rfl⟩
set_option maxRecDepth 20000 in
theorem ft_X9_0 : FT 9 0 (.array .int) true := ⟨_, _, _, rfl, tyX9_ok 0 (by decide), rfl⟩
set_option maxRecDepth 20000 in
theorem ft_X9_1 : FT 9 1 (.array .int) true := ⟨_, _, _, rfl, tyX9_ok 1 (by decide), rfl⟩
set_option maxRecDepth 20000 in
theorem ft_X9_2 : FT 9 2 (.array .int) true := ⟨_, _, _, rfl, tyX9_ok 2 (by decide), rfl⟩
set_option maxRecDepth 20000 in
theorem ft_X10_0 : FT 10 0 (.object "ChaseCourt$Laws") true := ⟨_, _, _, rfl, tyX10_ok 0 (by decide), rfl⟩
set_option maxRecDepth 20000 in
theorem ft_X10_1 : FT 10 1 (.object "ChaseCourt$Rules") true := ⟨_, _, _, rfl, tyX10_ok 1 (by decide), rfl⟩
set_option maxRecDepth 20000 in
theorem ft_X10_2 : FT 10 2 (.object "ChaseCourt$Score") true := ⟨_, _, _, rfl, tyX10_ok 2 (by decide), rfl⟩
set_option maxRecDepth 20000 in
theorem ft_X11_0 : FT 11 0 (.array .byte) true := ⟨_, _, _, rfl, tyX11_ok 0 (by decide), rfl⟩
set_option maxRecDepth 20000 in
theorem ft_X11_1 : FT 11 1 (.object "ChaseCourt$Scanner") true := ⟨_, _, _, rfl, tyX11_ok 1 (by decide), rfl⟩
set_option maxRecDepth 20000 in
theorem ft_X11_2 : FT 11 2 (.object "ChaseCourt$Laws") true := ⟨_, _, _, rfl, tyX11_ok 2 (by decide), rfl⟩
set_option maxRecDepth 20000 in
theorem ft_X11_3 : FT 11 3 (.object "ChaseCourt$Stand") true := ⟨_, _, _, rfl, tyX11_ok 3 (by decide), rfl⟩
set_option maxRecDepth 20000 in
theorem ft_X11_4 : FT 11 4 (.object "ChaseCourt$Score") true := ⟨_, _, _, rfl, tyX11_ok 4 (by decide), rfl⟩
set_option maxRecDepth 20000 in
theorem ft_X11_5 : FT 11 5 (.object "ChaseCourt$Stand") false := ⟨_, _, _, rfl, tyX11_ok 5 (by decide), rfl⟩
set_option maxRecDepth 20000 in
theorem ft_X11_6 : FT 11 6 (.object "ChaseCourt$Odds") false := ⟨_, _, _, rfl, tyX11_ok 6 (by decide), rfl⟩
set_option maxRecDepth 20000 in
theorem ft_X11_7 : FT 11 7 (.object "ChaseCourt$Mender") false := ⟨_, _, _, rfl, tyX11_ok 7 (by decide), rfl⟩
set_option maxRecDepth 20000 in
theorem ft_X11_8 : FT 11 8 (.object "ChaseCourt$RuleReader") false := ⟨_, _, _, rfl, tyX11_ok 8 (by decide), rfl⟩
set_option maxRecDepth 20000 in
theorem ft_X11_9 : FT 11 9 .int false := ⟨_, _, _, rfl, tyX11_ok 9 (by decide), rfl⟩
set_option maxRecDepth 20000 in
theorem ft_X11_10 : FT 11 10 .int false := ⟨_, _, _, rfl, tyX11_ok 10 (by decide), rfl⟩
set_option maxRecDepth 20000 in
theorem ft_X12_0 : FT 12 0 .int false := ⟨_, _, _, rfl, tyX12_ok 0 (by decide), rfl⟩
set_option maxRecDepth 20000 in
theorem ft_X12_1 : FT 12 1 (.array .int) true := ⟨_, _, _, rfl, tyX12_ok 1 (by decide), rfl⟩
set_option maxRecDepth 20000 in
theorem ft_X12_2 : FT 12 2 (.array .int) true := ⟨_, _, _, rfl, tyX12_ok 2 (by decide), rfl⟩
set_option maxRecDepth 20000 in
theorem ft_X12_3 : FT 12 3 .boolean false := ⟨_, _, _, rfl, tyX12_ok 3 (by decide), rfl⟩
set_option maxRecDepth 20000 in
theorem ft_X12_4 : FT 12 4 (.array .int) true := ⟨_, _, _, rfl, tyX12_ok 4 (by decide), rfl⟩
set_option maxRecDepth 20000 in
theorem ft_X12_5 : FT 12 5 (.array .int) true := ⟨_, _, _, rfl, tyX12_ok 5 (by decide), rfl⟩
set_option maxRecDepth 20000 in
theorem ft_X12_6 : FT 12 6 .int false := ⟨_, _, _, rfl, tyX12_ok 6 (by decide), rfl⟩
set_option maxRecDepth 20000 in
theorem ft_X12_7 : FT 12 7 .int false := ⟨_, _, _, rfl, tyX12_ok 7 (by decide), rfl⟩
set_option maxRecDepth 20000 in
theorem ft_X12_8 : FT 12 8 .int false := ⟨_, _, _, rfl, tyX12_ok 8 (by decide), rfl⟩
set_option maxRecDepth 20000 in
theorem ft_X12_9 : FT 12 9 .int false := ⟨_, _, _, rfl, tyX12_ok 9 (by decide), rfl⟩
set_option maxRecDepth 20000 in
theorem ft_X12_10 : FT 12 10 .int false := ⟨_, _, _, rfl, tyX12_ok 10 (by decide), rfl⟩
set_option maxRecDepth 20000 in
theorem ft_X12_11 : FT 12 11 .int false := ⟨_, _, _, rfl, tyX12_ok 11 (by decide), rfl⟩
set_option maxRecDepth 20000 in
theorem ft_X12_12 : FT 12 12 (.array .int) true := ⟨_, _, _, rfl, tyX12_ok 12 (by decide), rfl⟩
set_option maxRecDepth 20000 in
theorem ft_X12_13 : FT 12 13 .boolean false := ⟨_, _, _, rfl, tyX12_ok 13 (by decide), rfl⟩
set_option maxRecDepth 20000 in
theorem ft_X12_14 : FT 12 14 .boolean false := ⟨_, _, _, rfl, tyX12_ok 14 (by decide), rfl⟩
set_option maxRecDepth 20000 in
theorem ft_X12_15 : FT 12 15 .int false := ⟨_, _, _, rfl, tyX12_ok 15 (by decide), rfl⟩
set_option maxRecDepth 20000 in
theorem ft_X12_16 : FT 12 16 (.array .int) true := ⟨_, _, _, rfl, tyX12_ok 16 (by decide), rfl⟩
set_option maxRecDepth 20000 in
theorem ft_X12_17 : FT 12 17 .int false := ⟨_, _, _, rfl, tyX12_ok 17 (by decide), rfl⟩
set_option maxRecDepth 20000 in
theorem ft_X12_18 : FT 12 18 .int false := ⟨_, _, _, rfl, tyX12_ok 18 (by decide), rfl⟩
set_option maxRecDepth 20000 in
theorem ft_X12_19 : FT 12 19 (.array .int) true := ⟨_, _, _, rfl, tyX12_ok 19 (by decide), rfl⟩
set_option maxRecDepth 20000 in
theorem ft_X12_20 : FT 12 20 (.array .int) true := ⟨_, _, _, rfl, tyX12_ok 20 (by decide), rfl⟩
set_option maxRecDepth 20000 in
theorem ft_X12_21 : FT 12 21 (.array .int) true := ⟨_, _, _, rfl, tyX12_ok 21 (by decide), rfl⟩
set_option maxRecDepth 20000 in
theorem ft_X12_22 : FT 12 22 (.array .int) true := ⟨_, _, _, rfl, tyX12_ok 22 (by decide), rfl⟩
set_option maxRecDepth 20000 in
theorem ft_X12_23 : FT 12 23 (.array .int) true := ⟨_, _, _, rfl, tyX12_ok 23 (by decide), rfl⟩
set_option maxRecDepth 20000 in
theorem ft_X12_24 : FT 12 24 (.array .long) true := ⟨_, _, _, rfl, tyX12_ok 24 (by decide), rfl⟩
set_option maxRecDepth 20000 in
theorem ft_X12_25 : FT 12 25 (.array .long) true := ⟨_, _, _, rfl, tyX12_ok 25 (by decide), rfl⟩
set_option maxRecDepth 20000 in
theorem ft_X12_26 : FT 12 26 (.array .int) true := ⟨_, _, _, rfl, tyX12_ok 26 (by decide), rfl⟩
set_option maxRecDepth 20000 in
theorem ft_X12_27 : FT 12 27 (.array .int) true := ⟨_, _, _, rfl, tyX12_ok 27 (by decide), rfl⟩
set_option maxRecDepth 20000 in
theorem ft_X12_28 : FT 12 28 (.array .long) true := ⟨_, _, _, rfl, tyX12_ok 28 (by decide), rfl⟩
set_option maxRecDepth 20000 in
theorem ft_X12_29 : FT 12 29 (.array .long) true := ⟨_, _, _, rfl, tyX12_ok 29 (by decide), rfl⟩
set_option maxRecDepth 20000 in
theorem ft_X12_30 : FT 12 30 .int false := ⟨_, _, _, rfl, tyX12_ok 30 (by decide), rfl⟩
set_option maxRecDepth 20000 in
theorem ft_X12_31 : FT 12 31 .int false := ⟨_, _, _, rfl, tyX12_ok 31 (by decide), rfl⟩
set_option maxRecDepth 20000 in
theorem f_X11_9 : FK RX11 9 11 0 := ⟨_, _, _, tyX11, rfl, by decide, inTX11, TT_1 217 rfl rfl, tyX11_ok, nmX11⟩
set_option maxRecDepth 20000 in
theorem f_X11_16 : FK RX11 16 11 1 := ⟨_, _, _, tyX11, rfl, by decide, inTX11, TT_1 218 rfl rfl, tyX11_ok, nmX11⟩
set_option maxRecDepth 20000 in
theorem f_X11_23 : FK RX11 23 11 2 := ⟨_, _, _, tyX11, rfl, by decide, inTX11, TT_1 219 rfl rfl, tyX11_ok, nmX11⟩
set_option maxRecDepth 20000 in
theorem f_X11_30 : FK RX11 30 11 3 := ⟨_, _, _, tyX11, rfl, by decide, inTX11, TT_1 220 rfl rfl, tyX11_ok, nmX11⟩
set_option maxRecDepth 20000 in
theorem f_X11_37 : FK RX11 37 11 4 := ⟨_, _, _, tyX11, rfl, by decide, inTX11, TT_1 221 rfl rfl, tyX11_ok, nmX11⟩
set_option maxRecDepth 20000 in
theorem f_X11_41 : FK RX11 41 11 10 := ⟨_, _, _, tyX11, rfl, by decide, inTX11, TT_1 227 rfl rfl, tyX11_ok, nmX11⟩
set_option maxRecDepth 20000 in
theorem f_X11_45 : FK RX11 45 11 9 := ⟨_, _, _, tyX11, rfl, by decide, inTX11, TT_1 226 rfl rfl, tyX11_ok, nmX11⟩
set_option maxRecDepth 20000 in
theorem f_X11_60 : FK RX11 60 10 0 := ⟨_, _, _, tyX10, rfl, by decide, inTX10, TT_1 199 rfl rfl, tyX10_ok, nmX10⟩
set_option maxRecDepth 20000 in
theorem f_X11_78 : FK RX11 78 0 4 := ⟨_, _, _, tyX0, rfl, by decide, inTX0, TT_1 87 rfl rfl, tyX0_ok, nmX0⟩
set_option maxRecDepth 20000 in
theorem f_X11_86 : FK RX11 86 11 8 := ⟨_, _, _, tyX11, rfl, by decide, inTX11, TT_1 225 rfl rfl, tyX11_ok, nmX11⟩
set_option maxRecDepth 20000 in
theorem f_X11_98 : FK RX11 98 10 1 := ⟨_, _, _, tyX10, rfl, by decide, inTX10, TT_1 202 rfl rfl, tyX10_ok, nmX10⟩
set_option maxRecDepth 20000 in
theorem f_X11_102 : FK RX11 102 6 2 := ⟨_, _, _, tyX6, rfl, by decide, inTX6, TT_1 119 rfl rfl, tyX6_ok, nmX6⟩
set_option maxRecDepth 20000 in
theorem f_X11_126 : FK RX11 126 0 0 := ⟨_, _, _, tyX0, rfl, by decide, inTX0, TT_1 76 rfl rfl, tyX0_ok, nmX0⟩
set_option maxRecDepth 20000 in
theorem f_X11_135 : FK RX11 135 6 0 := ⟨_, _, _, tyX6, rfl, by decide, inTX6, TT_1 116 rfl rfl, tyX6_ok, nmX6⟩
set_option maxRecDepth 20000 in
theorem f_X11_138 : FK RX11 138 10 2 := ⟨_, _, _, tyX10, rfl, by decide, inTX10, TT_1 207 rfl rfl, tyX10_ok, nmX10⟩
set_option maxRecDepth 20000 in
theorem f_X11_153 : FK RX11 153 8 7 := ⟨_, _, _, tyX8, rfl, by decide, inTX8, TT_1 162 rfl rfl, tyX8_ok, nmX8⟩
set_option maxRecDepth 20000 in
theorem f_X11_156 : FK RX11 156 8 8 := ⟨_, _, _, tyX8, rfl, by decide, inTX8, TT_1 168 rfl rfl, tyX8_ok, nmX8⟩
set_option maxRecDepth 20000 in
theorem f_X11_161 : FK RX11 161 8 9 := ⟨_, _, _, tyX8, rfl, by decide, inTX8, TT_1 170 rfl rfl, tyX8_ok, nmX8⟩
set_option maxRecDepth 20000 in
theorem f_X11_164 : FK RX11 164 8 10 := ⟨_, _, _, tyX8, rfl, by decide, inTX8, TT_1 172 rfl rfl, tyX8_ok, nmX8⟩
set_option maxRecDepth 20000 in
theorem f_X11_223 : FK RX11 223 8 6 := ⟨_, _, _, tyX8, rfl, by decide, inTX8, TT_1 156 rfl rfl, tyX8_ok, nmX8⟩
set_option maxRecDepth 20000 in
theorem f_X11_237 : FK RX11 237 9 0 := ⟨_, _, _, tyX9, rfl, by decide, inTX9, TT_5 167 rfl rfl, tyX9_ok, nmX9⟩
set_option maxRecDepth 20000 in
theorem f_X11_240 : FK RX11 240 9 1 := ⟨_, _, _, tyX9, rfl, by decide, inTX9, TT_5 169 rfl rfl, tyX9_ok, nmX9⟩
set_option maxRecDepth 20000 in
theorem f_X11_250 : FK RX11 250 8 2 := ⟨_, _, _, tyX8, rfl, by decide, inTX8, TT_1 143 rfl rfl, tyX8_ok, nmX8⟩
set_option maxRecDepth 20000 in
theorem f_X11_272 : FK RX11 272 11 7 := ⟨_, _, _, tyX11, rfl, by decide, inTX11, TT_1 224 rfl rfl, tyX11_ok, nmX11⟩
set_option maxRecDepth 20000 in
theorem f_X11_290 : FK RX11 290 1 10 := ⟨_, _, _, tyX1, rfl, by decide, inTX1, TT_6 17 rfl rfl, tyX1_ok, nmX1⟩
set_option maxRecDepth 20000 in
theorem f_X11_293 : FK RX11 293 1 9 := ⟨_, _, _, tyX1, rfl, by decide, inTX1, TT_6 15 rfl rfl, tyX1_ok, nmX1⟩
set_option maxRecDepth 20000 in
theorem f_X11_309 : FK RX11 309 11 5 := ⟨_, _, _, tyX11, rfl, by decide, inTX11, TT_1 222 rfl rfl, tyX11_ok, nmX11⟩
set_option maxRecDepth 20000 in
theorem f_X11_314 : FK RX11 314 0 1 := ⟨_, _, _, tyX0, rfl, by decide, inTX0, TT_1 80 rfl rfl, tyX0_ok, nmX0⟩
set_option maxRecDepth 20000 in
theorem f_X11_317 : FK RX11 317 0 2 := ⟨_, _, _, tyX0, rfl, by decide, inTX0, TT_1 83 rfl rfl, tyX0_ok, nmX0⟩
set_option maxRecDepth 20000 in
theorem f_X11_320 : FK RX11 320 0 3 := ⟨_, _, _, tyX0, rfl, by decide, inTX0, TT_1 85 rfl rfl, tyX0_ok, nmX0⟩
set_option maxRecDepth 20000 in
theorem f_X11_341 : FK RX11 341 11 6 := ⟨_, _, _, tyX11, rfl, by decide, inTX11, TT_1 223 rfl rfl, tyX11_ok, nmX11⟩
set_option maxRecDepth 20000 in
theorem f_X0_9 : FK RX0 9 0 0 := ⟨_, _, _, tyX0, rfl, by decide, inTX0, TT_1 74 rfl rfl, tyX0_ok, nmX0⟩
set_option maxRecDepth 20000 in
theorem f_X0_15 : FK RX0 15 0 1 := ⟨_, _, _, tyX0, rfl, by decide, inTX0, TT_1 77 rfl rfl, tyX0_ok, nmX0⟩
set_option maxRecDepth 20000 in
theorem f_X0_25 : FK RX0 25 0 2 := ⟨_, _, _, tyX0, rfl, by decide, inTX0, TT_1 81 rfl rfl, tyX0_ok, nmX0⟩
set_option maxRecDepth 20000 in
theorem f_X0_28 : FK RX0 28 0 3 := ⟨_, _, _, tyX0, rfl, by decide, inTX0, TT_1 84 rfl rfl, tyX0_ok, nmX0⟩
set_option maxRecDepth 20000 in
theorem f_X0_31 : FK RX0 31 0 4 := ⟨_, _, _, tyX0, rfl, by decide, inTX0, TT_1 86 rfl rfl, tyX0_ok, nmX0⟩
set_option maxRecDepth 20000 in
theorem f_X1_12 : FK RX1 12 1 0 := ⟨_, _, _, tyX1, rfl, by decide, inTX1, TT_6 5 rfl rfl, tyX1_ok, nmX1⟩
set_option maxRecDepth 20000 in
theorem f_X1_18 : FK RX1 18 1 1 := ⟨_, _, _, tyX1, rfl, by decide, inTX1, TT_6 6 rfl rfl, tyX1_ok, nmX1⟩
set_option maxRecDepth 20000 in
theorem f_X1_24 : FK RX1 24 1 2 := ⟨_, _, _, tyX1, rfl, by decide, inTX1, TT_6 7 rfl rfl, tyX1_ok, nmX1⟩
set_option maxRecDepth 20000 in
theorem f_X1_28 : FK RX1 28 1 3 := ⟨_, _, _, tyX1, rfl, by decide, inTX1, TT_6 8 rfl rfl, tyX1_ok, nmX1⟩
set_option maxRecDepth 20000 in
theorem f_X1_31 : FK RX1 31 1 4 := ⟨_, _, _, tyX1, rfl, by decide, inTX1, TT_6 9 rfl rfl, tyX1_ok, nmX1⟩
set_option maxRecDepth 20000 in
theorem f_X1_35 : FK RX1 35 1 5 := ⟨_, _, _, tyX1, rfl, by decide, inTX1, TT_6 10 rfl rfl, tyX1_ok, nmX1⟩
set_option maxRecDepth 20000 in
theorem f_X1_38 : FK RX1 38 1 6 := ⟨_, _, _, tyX1, rfl, by decide, inTX1, TT_6 11 rfl rfl, tyX1_ok, nmX1⟩
set_option maxRecDepth 20000 in
theorem f_X1_42 : FK RX1 42 1 7 := ⟨_, _, _, tyX1, rfl, by decide, inTX1, TT_6 12 rfl rfl, tyX1_ok, nmX1⟩
set_option maxRecDepth 20000 in
theorem f_X1_45 : FK RX1 45 1 8 := ⟨_, _, _, tyX1, rfl, by decide, inTX1, TT_6 13 rfl rfl, tyX1_ok, nmX1⟩
set_option maxRecDepth 20000 in
theorem f_X1_49 : FK RX1 49 10 2 := ⟨_, _, _, tyX10, rfl, by decide, inTX10, TT_1 205 rfl rfl, tyX10_ok, nmX10⟩
set_option maxRecDepth 20000 in
theorem f_X1_68 : FK RX1 68 3 2 := ⟨_, _, _, tyX3, rfl, by decide, inTX3, TT_4 160 rfl rfl, tyX3_ok, nmX3⟩
set_option maxRecDepth 20000 in
theorem f_X1_76 : FK RX1 76 10 0 := ⟨_, _, _, tyX10, rfl, by decide, inTX10, TT_1 198 rfl rfl, tyX10_ok, nmX10⟩
set_option maxRecDepth 20000 in
theorem f_X1_88 : FK RX1 88 8 6 := ⟨_, _, _, tyX8, rfl, by decide, inTX8, TT_1 153 rfl rfl, tyX8_ok, nmX8⟩
set_option maxRecDepth 20000 in
theorem f_X1_96 : FK RX1 96 8 4 := ⟨_, _, _, tyX8, rfl, by decide, inTX8, TT_1 147 rfl rfl, tyX8_ok, nmX8⟩
set_option maxRecDepth 20000 in
theorem f_X1_120 : FK RX1 120 8 7 := ⟨_, _, _, tyX8, rfl, by decide, inTX8, TT_1 159 rfl rfl, tyX8_ok, nmX8⟩
set_option maxRecDepth 20000 in
theorem f_X1_123 : FK RX1 123 8 8 := ⟨_, _, _, tyX8, rfl, by decide, inTX8, TT_1 165 rfl rfl, tyX8_ok, nmX8⟩
set_option maxRecDepth 20000 in
theorem f_X1_145 : FK RX1 145 1 9 := ⟨_, _, _, tyX1, rfl, by decide, inTX1, TT_6 14 rfl rfl, tyX1_ok, nmX1⟩
set_option maxRecDepth 20000 in
theorem f_X1_148 : FK RX1 148 1 10 := ⟨_, _, _, tyX1, rfl, by decide, inTX1, TT_6 16 rfl rfl, tyX1_ok, nmX1⟩
set_option maxRecDepth 20000 in
theorem f_X1_152 : FK RX1 152 8 0 := ⟨_, _, _, tyX8, rfl, by decide, inTX8, TT_1 135 rfl rfl, tyX8_ok, nmX8⟩
set_option maxRecDepth 20000 in
theorem f_X1_155 : FK RX1 155 8 1 := ⟨_, _, _, tyX8, rfl, by decide, inTX8, TT_1 138 rfl rfl, tyX8_ok, nmX8⟩
set_option maxRecDepth 20000 in
theorem f_X2_12 : FK RX2 12 2 0 := ⟨_, _, _, tyX2, rfl, by decide, inTX2, TT_4 171 rfl rfl, tyX2_ok, nmX2⟩
set_option maxRecDepth 20000 in
theorem f_X2_21 : FK RX2 21 2 1 := ⟨_, _, _, tyX2, rfl, by decide, inTX2, TT_4 172 rfl rfl, tyX2_ok, nmX2⟩
set_option maxRecDepth 20000 in
theorem f_X2_25 : FK RX2 25 2 2 := ⟨_, _, _, tyX2, rfl, by decide, inTX2, TT_4 173 rfl rfl, tyX2_ok, nmX2⟩
set_option maxRecDepth 20000 in
theorem f_X2_28 : FK RX2 28 2 3 := ⟨_, _, _, tyX2, rfl, by decide, inTX2, TT_4 174 rfl rfl, tyX2_ok, nmX2⟩
set_option maxRecDepth 20000 in
theorem f_X2_32 : FK RX2 32 2 4 := ⟨_, _, _, tyX2, rfl, by decide, inTX2, TT_4 175 rfl rfl, tyX2_ok, nmX2⟩
set_option maxRecDepth 20000 in
theorem f_X2_35 : FK RX2 35 2 5 := ⟨_, _, _, tyX2, rfl, by decide, inTX2, TT_4 176 rfl rfl, tyX2_ok, nmX2⟩
set_option maxRecDepth 20000 in
theorem f_X2_38 : FK RX2 38 2 6 := ⟨_, _, _, tyX2, rfl, by decide, inTX2, TT_4 177 rfl rfl, tyX2_ok, nmX2⟩
set_option maxRecDepth 20000 in
theorem f_X2_41 : FK RX2 41 2 7 := ⟨_, _, _, tyX2, rfl, by decide, inTX2, TT_4 178 rfl rfl, tyX2_ok, nmX2⟩
set_option maxRecDepth 20000 in
theorem f_X2_44 : FK RX2 44 2 13 := ⟨_, _, _, tyX2, rfl, by decide, inTX2, TT_4 184 rfl rfl, tyX2_ok, nmX2⟩
set_option maxRecDepth 20000 in
theorem f_X2_47 : FK RX2 47 2 14 := ⟨_, _, _, tyX2, rfl, by decide, inTX2, TT_4 185 rfl rfl, tyX2_ok, nmX2⟩
set_option maxRecDepth 20000 in
theorem f_X2_50 : FK RX2 50 2 15 := ⟨_, _, _, tyX2, rfl, by decide, inTX2, TT_4 186 rfl rfl, tyX2_ok, nmX2⟩
set_option maxRecDepth 20000 in
theorem f_X2_53 : FK RX2 53 2 16 := ⟨_, _, _, tyX2, rfl, by decide, inTX2, TT_4 187 rfl rfl, tyX2_ok, nmX2⟩
set_option maxRecDepth 20000 in
theorem f_X2_56 : FK RX2 56 2 12 := ⟨_, _, _, tyX2, rfl, by decide, inTX2, TT_4 183 rfl rfl, tyX2_ok, nmX2⟩
set_option maxRecDepth 20000 in
theorem f_X2_60 : FK RX2 60 2 10 := ⟨_, _, _, tyX2, rfl, by decide, inTX2, TT_4 181 rfl rfl, tyX2_ok, nmX2⟩
set_option maxRecDepth 20000 in
theorem f_X2_64 : FK RX2 64 2 11 := ⟨_, _, _, tyX2, rfl, by decide, inTX2, TT_4 182 rfl rfl, tyX2_ok, nmX2⟩
set_option maxRecDepth 20000 in
theorem f_X2_67 : FK RX2 67 2 9 := ⟨_, _, _, tyX2, rfl, by decide, inTX2, TT_4 180 rfl rfl, tyX2_ok, nmX2⟩
set_option maxRecDepth 20000 in
theorem f_X2_70 : FK RX2 70 2 8 := ⟨_, _, _, tyX2, rfl, by decide, inTX2, TT_4 179 rfl rfl, tyX2_ok, nmX2⟩
set_option maxRecDepth 20000 in
theorem f_X2_76 : FK RX2 76 10 2 := ⟨_, _, _, tyX10, rfl, by decide, inTX10, TT_1 206 rfl rfl, tyX10_ok, nmX10⟩
set_option maxRecDepth 20000 in
theorem f_X2_97 : FK RX2 97 3 2 := ⟨_, _, _, tyX3, rfl, by decide, inTX3, TT_4 161 rfl rfl, tyX3_ok, nmX3⟩
set_option maxRecDepth 20000 in
theorem f_X2_112 : FK RX2 112 10 0 := ⟨_, _, _, tyX10, rfl, by decide, inTX10, TT_1 200 rfl rfl, tyX10_ok, nmX10⟩
set_option maxRecDepth 20000 in
theorem f_X2_123 : FK RX2 123 8 6 := ⟨_, _, _, tyX8, rfl, by decide, inTX8, TT_1 154 rfl rfl, tyX8_ok, nmX8⟩
set_option maxRecDepth 20000 in
theorem f_X2_155 : FK RX2 155 8 2 := ⟨_, _, _, tyX8, rfl, by decide, inTX8, TT_1 142 rfl rfl, tyX8_ok, nmX8⟩
set_option maxRecDepth 20000 in
theorem f_X2_161 : FK RX2 161 0 0 := ⟨_, _, _, tyX0, rfl, by decide, inTX0, TT_1 75 rfl rfl, tyX0_ok, nmX0⟩
set_option maxRecDepth 20000 in
theorem f_X2_166 : FK RX2 166 8 4 := ⟨_, _, _, tyX8, rfl, by decide, inTX8, TT_1 149 rfl rfl, tyX8_ok, nmX8⟩
set_option maxRecDepth 20000 in
theorem f_X2_177 : FK RX2 177 8 7 := ⟨_, _, _, tyX8, rfl, by decide, inTX8, TT_1 161 rfl rfl, tyX8_ok, nmX8⟩
set_option maxRecDepth 20000 in
theorem f_X2_180 : FK RX2 180 8 8 := ⟨_, _, _, tyX8, rfl, by decide, inTX8, TT_1 167 rfl rfl, tyX8_ok, nmX8⟩
set_option maxRecDepth 20000 in
theorem f_X3_7 : FK RX3 7 3 0 := ⟨_, _, _, tyX3, rfl, by decide, inTX3, TT_4 157 rfl rfl, tyX3_ok, nmX3⟩
set_option maxRecDepth 20000 in
theorem f_X3_13 : FK RX3 13 3 1 := ⟨_, _, _, tyX3, rfl, by decide, inTX3, TT_4 158 rfl rfl, tyX3_ok, nmX3⟩
set_option maxRecDepth 20000 in
theorem f_X3_22 : FK RX3 22 3 2 := ⟨_, _, _, tyX3, rfl, by decide, inTX3, TT_4 159 rfl rfl, tyX3_ok, nmX3⟩
set_option maxRecDepth 20000 in
theorem f_X4_9 : FK RX4 9 4 1 := ⟨_, _, _, tyX4, rfl, by decide, inTX4, TT_3 156 rfl rfl, tyX4_ok, nmX4⟩
set_option maxRecDepth 20000 in
theorem f_X4_15 : FK RX4 15 4 0 := ⟨_, _, _, tyX4, rfl, by decide, inTX4, TT_3 155 rfl rfl, tyX4_ok, nmX4⟩
set_option maxRecDepth 20000 in
theorem f_X4_42 : FK RX4 42 8 2 := ⟨_, _, _, tyX8, rfl, by decide, inTX8, TT_1 141 rfl rfl, tyX8_ok, nmX8⟩
set_option maxRecDepth 20000 in
theorem f_X4_48 : FK RX4 48 8 6 := ⟨_, _, _, tyX8, rfl, by decide, inTX8, TT_1 155 rfl rfl, tyX8_ok, nmX8⟩
set_option maxRecDepth 20000 in
theorem f_X4_52 : FK RX4 52 8 0 := ⟨_, _, _, tyX8, rfl, by decide, inTX8, TT_1 134 rfl rfl, tyX8_ok, nmX8⟩
set_option maxRecDepth 20000 in
theorem f_X4_55 : FK RX4 55 8 1 := ⟨_, _, _, tyX8, rfl, by decide, inTX8, TT_1 137 rfl rfl, tyX8_ok, nmX8⟩
set_option maxRecDepth 20000 in
theorem f_X4_58 : FK RX4 58 8 3 := ⟨_, _, _, tyX8, rfl, by decide, inTX8, TT_1 145 rfl rfl, tyX8_ok, nmX8⟩
set_option maxRecDepth 20000 in
theorem f_X4_61 : FK RX4 61 8 4 := ⟨_, _, _, tyX8, rfl, by decide, inTX8, TT_1 148 rfl rfl, tyX8_ok, nmX8⟩
set_option maxRecDepth 20000 in
theorem f_X4_64 : FK RX4 64 8 5 := ⟨_, _, _, tyX8, rfl, by decide, inTX8, TT_1 151 rfl rfl, tyX8_ok, nmX8⟩
set_option maxRecDepth 20000 in
theorem f_X4_67 : FK RX4 67 8 7 := ⟨_, _, _, tyX8, rfl, by decide, inTX8, TT_1 160 rfl rfl, tyX8_ok, nmX8⟩
set_option maxRecDepth 20000 in
theorem f_X4_70 : FK RX4 70 8 8 := ⟨_, _, _, tyX8, rfl, by decide, inTX8, TT_1 166 rfl rfl, tyX8_ok, nmX8⟩
set_option maxRecDepth 20000 in
theorem f_X5_9 : FK RX5 9 5 0 := ⟨_, _, _, tyX5, rfl, by decide, inTX5, TT_3 68 rfl rfl, tyX5_ok, nmX5⟩
set_option maxRecDepth 20000 in
theorem f_X5_15 : FK RX5 15 5 3 := ⟨_, _, _, tyX5, rfl, by decide, inTX5, TT_3 71 rfl rfl, tyX5_ok, nmX5⟩
set_option maxRecDepth 20000 in
theorem f_X5_19 : FK RX5 19 5 1 := ⟨_, _, _, tyX5, rfl, by decide, inTX5, TT_3 69 rfl rfl, tyX5_ok, nmX5⟩
set_option maxRecDepth 20000 in
theorem f_X5_43 : FK RX5 43 5 2 := ⟨_, _, _, tyX5, rfl, by decide, inTX5, TT_3 70 rfl rfl, tyX5_ok, nmX5⟩
set_option maxRecDepth 20000 in
theorem f_X6_9 : FK RX6 9 6 0 := ⟨_, _, _, tyX6, rfl, by decide, inTX6, TT_1 115 rfl rfl, tyX6_ok, nmX6⟩
set_option maxRecDepth 20000 in
theorem f_X6_17 : FK RX6 17 6 1 := ⟨_, _, _, tyX6, rfl, by decide, inTX6, TT_1 117 rfl rfl, tyX6_ok, nmX6⟩
set_option maxRecDepth 20000 in
theorem f_X6_21 : FK RX6 21 6 2 := ⟨_, _, _, tyX6, rfl, by decide, inTX6, TT_1 118 rfl rfl, tyX6_ok, nmX6⟩
set_option maxRecDepth 20000 in
theorem f_X7_11 : FK RX7 11 7 0 := ⟨_, _, _, tyX7, rfl, by decide, inTX7, TT_1 44 rfl rfl, tyX7_ok, nmX7⟩
set_option maxRecDepth 20000 in
theorem f_X7_15 : FK RX7 15 7 1 := ⟨_, _, _, tyX7, rfl, by decide, inTX7, TT_1 45 rfl rfl, tyX7_ok, nmX7⟩
set_option maxRecDepth 20000 in
theorem f_X7_18 : FK RX7 18 7 2 := ⟨_, _, _, tyX7, rfl, by decide, inTX7, TT_1 46 rfl rfl, tyX7_ok, nmX7⟩
set_option maxRecDepth 20000 in
theorem f_X7_21 : FK RX7 21 7 3 := ⟨_, _, _, tyX7, rfl, by decide, inTX7, TT_1 47 rfl rfl, tyX7_ok, nmX7⟩
set_option maxRecDepth 20000 in
theorem f_X7_31 : FK RX7 31 7 4 := ⟨_, _, _, tyX7, rfl, by decide, inTX7, TT_1 48 rfl rfl, tyX7_ok, nmX7⟩
set_option maxRecDepth 20000 in
theorem f_X7_35 : FK RX7 35 7 5 := ⟨_, _, _, tyX7, rfl, by decide, inTX7, TT_1 49 rfl rfl, tyX7_ok, nmX7⟩
set_option maxRecDepth 20000 in
theorem f_X7_38 : FK RX7 38 7 6 := ⟨_, _, _, tyX7, rfl, by decide, inTX7, TT_1 50 rfl rfl, tyX7_ok, nmX7⟩
set_option maxRecDepth 20000 in
theorem f_X8_9 : FK RX8 9 8 0 := ⟨_, _, _, tyX8, rfl, by decide, inTX8, TT_1 133 rfl rfl, tyX8_ok, nmX8⟩
set_option maxRecDepth 20000 in
theorem f_X8_15 : FK RX8 15 8 1 := ⟨_, _, _, tyX8, rfl, by decide, inTX8, TT_1 136 rfl rfl, tyX8_ok, nmX8⟩
set_option maxRecDepth 20000 in
theorem f_X8_18 : FK RX8 18 8 2 := ⟨_, _, _, tyX8, rfl, by decide, inTX8, TT_1 139 rfl rfl, tyX8_ok, nmX8⟩
set_option maxRecDepth 20000 in
theorem f_X8_21 : FK RX8 21 8 3 := ⟨_, _, _, tyX8, rfl, by decide, inTX8, TT_1 144 rfl rfl, tyX8_ok, nmX8⟩
set_option maxRecDepth 20000 in
theorem f_X8_24 : FK RX8 24 8 4 := ⟨_, _, _, tyX8, rfl, by decide, inTX8, TT_1 146 rfl rfl, tyX8_ok, nmX8⟩
set_option maxRecDepth 20000 in
theorem f_X8_27 : FK RX8 27 8 5 := ⟨_, _, _, tyX8, rfl, by decide, inTX8, TT_1 150 rfl rfl, tyX8_ok, nmX8⟩
set_option maxRecDepth 20000 in
theorem f_X8_30 : FK RX8 30 8 6 := ⟨_, _, _, tyX8, rfl, by decide, inTX8, TT_1 152 rfl rfl, tyX8_ok, nmX8⟩
set_option maxRecDepth 20000 in
theorem f_X8_34 : FK RX8 34 8 7 := ⟨_, _, _, tyX8, rfl, by decide, inTX8, TT_1 158 rfl rfl, tyX8_ok, nmX8⟩
set_option maxRecDepth 20000 in
theorem f_X8_37 : FK RX8 37 8 8 := ⟨_, _, _, tyX8, rfl, by decide, inTX8, TT_1 164 rfl rfl, tyX8_ok, nmX8⟩
set_option maxRecDepth 20000 in
theorem f_X8_40 : FK RX8 40 8 9 := ⟨_, _, _, tyX8, rfl, by decide, inTX8, TT_1 169 rfl rfl, tyX8_ok, nmX8⟩
set_option maxRecDepth 20000 in
theorem f_X8_43 : FK RX8 43 8 10 := ⟨_, _, _, tyX8, rfl, by decide, inTX8, TT_1 171 rfl rfl, tyX8_ok, nmX8⟩
set_option maxRecDepth 20000 in
theorem f_X8_46 : FK RX8 46 0 1 := ⟨_, _, _, tyX0, rfl, by decide, inTX0, TT_1 79 rfl rfl, tyX0_ok, nmX0⟩
set_option maxRecDepth 20000 in
theorem f_X8_75 : FK RX8 75 0 2 := ⟨_, _, _, tyX0, rfl, by decide, inTX0, TT_1 82 rfl rfl, tyX0_ok, nmX0⟩
set_option maxRecDepth 20000 in
theorem f_X9_9 : FK RX9 9 9 0 := ⟨_, _, _, tyX9, rfl, by decide, inTX9, TT_5 166 rfl rfl, tyX9_ok, nmX9⟩
set_option maxRecDepth 20000 in
theorem f_X9_15 : FK RX9 15 9 1 := ⟨_, _, _, tyX9, rfl, by decide, inTX9, TT_5 168 rfl rfl, tyX9_ok, nmX9⟩
set_option maxRecDepth 20000 in
theorem f_X9_18 : FK RX9 18 9 2 := ⟨_, _, _, tyX9, rfl, by decide, inTX9, TT_5 170 rfl rfl, tyX9_ok, nmX9⟩
set_option maxRecDepth 20000 in
theorem f_X9_21 : FK RX9 21 10 0 := ⟨_, _, _, tyX10, rfl, by decide, inTX10, TT_1 197 rfl rfl, tyX10_ok, nmX10⟩
set_option maxRecDepth 20000 in
theorem f_X9_27 : FK RX9 27 0 1 := ⟨_, _, _, tyX0, rfl, by decide, inTX0, TT_1 78 rfl rfl, tyX0_ok, nmX0⟩
set_option maxRecDepth 20000 in
theorem f_X9_33 : FK RX9 33 10 2 := ⟨_, _, _, tyX10, rfl, by decide, inTX10, TT_1 204 rfl rfl, tyX10_ok, nmX10⟩
set_option maxRecDepth 20000 in
theorem f_X9_37 : FK RX9 37 8 7 := ⟨_, _, _, tyX8, rfl, by decide, inTX8, TT_1 157 rfl rfl, tyX8_ok, nmX8⟩
set_option maxRecDepth 20000 in
theorem f_X9_42 : FK RX9 42 8 8 := ⟨_, _, _, tyX8, rfl, by decide, inTX8, TT_1 163 rfl rfl, tyX8_ok, nmX8⟩
set_option maxRecDepth 20000 in
theorem f_X10_12 : FK RX10 12 10 0 := ⟨_, _, _, tyX10, rfl, by decide, inTX10, TT_1 196 rfl rfl, tyX10_ok, nmX10⟩
set_option maxRecDepth 20000 in
theorem f_X10_21 : FK RX10 21 10 1 := ⟨_, _, _, tyX10, rfl, by decide, inTX10, TT_1 201 rfl rfl, tyX10_ok, nmX10⟩
set_option maxRecDepth 20000 in
theorem f_X10_28 : FK RX10 28 10 2 := ⟨_, _, _, tyX10, rfl, by decide, inTX10, TT_1 203 rfl rfl, tyX10_ok, nmX10⟩
set_option maxRecDepth 20000 in
theorem f_X10_42 : FK RX10 42 8 2 := ⟨_, _, _, tyX8, rfl, by decide, inTX8, TT_1 140 rfl rfl, tyX8_ok, nmX8⟩
set_option maxRecDepth 20000 in
theorem f_X12_7 : FK RX12 7 12 1 := ⟨_, _, _, tyX12, rfl, by decide, inTX12, TT_6 117 rfl rfl, tyX12_ok, nmX12⟩
set_option maxRecDepth 20000 in
theorem f_X12_13 : FK RX12 13 12 2 := ⟨_, _, _, tyX12, rfl, by decide, inTX12, TT_6 118 rfl rfl, tyX12_ok, nmX12⟩
set_option maxRecDepth 20000 in
theorem f_X12_16 : FK RX12 16 12 4 := ⟨_, _, _, tyX12, rfl, by decide, inTX12, TT_6 120 rfl rfl, tyX12_ok, nmX12⟩
set_option maxRecDepth 20000 in
theorem f_X12_19 : FK RX12 19 12 5 := ⟨_, _, _, tyX12, rfl, by decide, inTX12, TT_6 121 rfl rfl, tyX12_ok, nmX12⟩
set_option maxRecDepth 20000 in
theorem f_X12_22 : FK RX12 22 12 10 := ⟨_, _, _, tyX12, rfl, by decide, inTX12, TT_6 126 rfl rfl, tyX12_ok, nmX12⟩
set_option maxRecDepth 20000 in
theorem f_X12_26 : FK RX12 26 12 12 := ⟨_, _, _, tyX12, rfl, by decide, inTX12, TT_6 128 rfl rfl, tyX12_ok, nmX12⟩
set_option maxRecDepth 20000 in
theorem f_X12_29 : FK RX12 29 12 16 := ⟨_, _, _, tyX12, rfl, by decide, inTX12, TT_6 132 rfl rfl, tyX12_ok, nmX12⟩
set_option maxRecDepth 20000 in
theorem f_X12_32 : FK RX12 32 12 19 := ⟨_, _, _, tyX12, rfl, by decide, inTX12, TT_6 135 rfl rfl, tyX12_ok, nmX12⟩
set_option maxRecDepth 20000 in
theorem f_X12_35 : FK RX12 35 12 20 := ⟨_, _, _, tyX12, rfl, by decide, inTX12, TT_6 136 rfl rfl, tyX12_ok, nmX12⟩
set_option maxRecDepth 20000 in
theorem f_X12_38 : FK RX12 38 12 21 := ⟨_, _, _, tyX12, rfl, by decide, inTX12, TT_6 137 rfl rfl, tyX12_ok, nmX12⟩
set_option maxRecDepth 20000 in
theorem f_X12_41 : FK RX12 41 12 22 := ⟨_, _, _, tyX12, rfl, by decide, inTX12, TT_6 138 rfl rfl, tyX12_ok, nmX12⟩
set_option maxRecDepth 20000 in
theorem f_X12_44 : FK RX12 44 12 23 := ⟨_, _, _, tyX12, rfl, by decide, inTX12, TT_6 139 rfl rfl, tyX12_ok, nmX12⟩
set_option maxRecDepth 20000 in
theorem f_X12_47 : FK RX12 47 12 24 := ⟨_, _, _, tyX12, rfl, by decide, inTX12, TT_6 140 rfl rfl, tyX12_ok, nmX12⟩
set_option maxRecDepth 20000 in
theorem f_X12_51 : FK RX12 51 12 25 := ⟨_, _, _, tyX12, rfl, by decide, inTX12, TT_6 141 rfl rfl, tyX12_ok, nmX12⟩
set_option maxRecDepth 20000 in
theorem f_X12_54 : FK RX12 54 12 26 := ⟨_, _, _, tyX12, rfl, by decide, inTX12, TT_6 142 rfl rfl, tyX12_ok, nmX12⟩
set_option maxRecDepth 20000 in
theorem f_X12_57 : FK RX12 57 12 27 := ⟨_, _, _, tyX12, rfl, by decide, inTX12, TT_6 143 rfl rfl, tyX12_ok, nmX12⟩
set_option maxRecDepth 20000 in
theorem f_X12_61 : FK RX12 61 12 28 := ⟨_, _, _, tyX12, rfl, by decide, inTX12, TT_6 144 rfl rfl, tyX12_ok, nmX12⟩
set_option maxRecDepth 20000 in
theorem f_X12_64 : FK RX12 64 12 29 := ⟨_, _, _, tyX12, rfl, by decide, inTX12, TT_6 145 rfl rfl, tyX12_ok, nmX12⟩
set_option maxRecDepth 20000 in
theorem f_X12_67 : FK RX12 67 12 0 := ⟨_, _, _, tyX12, rfl, by decide, inTX12, TT_6 116 rfl rfl, tyX12_ok, nmX12⟩
set_option maxRecDepth 20000 in
theorem f_X12_74 : FK RX12 74 12 6 := ⟨_, _, _, tyX12, rfl, by decide, inTX12, TT_6 122 rfl rfl, tyX12_ok, nmX12⟩
set_option maxRecDepth 20000 in
theorem f_X12_77 : FK RX12 77 12 7 := ⟨_, _, _, tyX12, rfl, by decide, inTX12, TT_6 123 rfl rfl, tyX12_ok, nmX12⟩
set_option maxRecDepth 20000 in
theorem f_X12_80 : FK RX12 80 12 9 := ⟨_, _, _, tyX12, rfl, by decide, inTX12, TT_6 125 rfl rfl, tyX12_ok, nmX12⟩
set_option maxRecDepth 20000 in
theorem f_X12_83 : FK RX12 83 12 8 := ⟨_, _, _, tyX12, rfl, by decide, inTX12, TT_6 124 rfl rfl, tyX12_ok, nmX12⟩
set_option maxRecDepth 20000 in
theorem f_X12_129 : FK RX12 129 12 11 := ⟨_, _, _, tyX12, rfl, by decide, inTX12, TT_6 127 rfl rfl, tyX12_ok, nmX12⟩
set_option maxRecDepth 20000 in
theorem f_X12_159 : FK RX12 159 12 13 := ⟨_, _, _, tyX12, rfl, by decide, inTX12, TT_6 129 rfl rfl, tyX12_ok, nmX12⟩
set_option maxRecDepth 20000 in
theorem f_X12_165 : FK RX12 165 12 14 := ⟨_, _, _, tyX12, rfl, by decide, inTX12, TT_6 130 rfl rfl, tyX12_ok, nmX12⟩
set_option maxRecDepth 20000 in
theorem f_X12_194 : FK RX12 194 12 15 := ⟨_, _, _, tyX12, rfl, by decide, inTX12, TT_6 131 rfl rfl, tyX12_ok, nmX12⟩
set_option maxRecDepth 20000 in
theorem f_X12_212 : FK RX12 212 12 18 := ⟨_, _, _, tyX12, rfl, by decide, inTX12, TT_6 134 rfl rfl, tyX12_ok, nmX12⟩
set_option maxRecDepth 20000 in
theorem f_X12_215 : FK RX12 215 12 17 := ⟨_, _, _, tyX12, rfl, by decide, inTX12, TT_6 133 rfl rfl, tyX12_ok, nmX12⟩
set_option maxRecDepth 20000 in
theorem f_X12_293 : FK RX12 293 12 31 := ⟨_, _, _, tyX12, rfl, by decide, inTX12, TT_6 147 rfl rfl, tyX12_ok, nmX12⟩
set_option maxRecDepth 20000 in
theorem f_X12_296 : FK RX12 296 12 30 := ⟨_, _, _, tyX12, rfl, by decide, inTX12, TT_6 146 rfl rfl, tyX12_ok, nmX12⟩
set_option maxRecDepth 20000 in
theorem f_X12_309 : FK RX12 309 12 3 := ⟨_, _, _, tyX12, rfl, by decide, inTX12, TT_6 119 rfl rfl, tyX12_ok, nmX12⟩
set_option maxRecDepth 20000 in
theorem n_X11_13 : NK RX11 13 7 := ⟨_, _, _, tyX7, rfl, inTX7, tyX7_ok, TT_1 38 rfl rfl, TT_1 39 rfl rfl, TT_1 2 rfl rfl, rfl, by decide +kernel⟩
set_option maxRecDepth 20000 in
theorem n_X11_20 : NK RX11 20 0 := ⟨_, _, _, tyX0, rfl, inTX0, tyX0_ok, TT_1 68 rfl rfl, TT_1 69 rfl rfl, TT_1 3 rfl rfl, rfl, by decide +kernel⟩
set_option maxRecDepth 20000 in
theorem n_X11_27 : NK RX11 27 10 := ⟨_, _, _, tyX10, rfl, inTX10, tyX10_ok, TT_1 99 rfl rfl, TT_1 100 rfl rfl, TT_1 4 rfl rfl, rfl, by decide +kernel⟩
set_option maxRecDepth 20000 in
theorem n_X11_34 : NK RX11 34 8 := ⟨_, _, _, tyX8, rfl, inTX8, tyX8_ok, TT_1 215 rfl rfl, TT_1 128 rfl rfl, TT_1 6 rfl rfl, rfl, by decide +kernel⟩
set_option maxRecDepth 20000 in
theorem n_X11_90 : NK RX11 90 5 := ⟨_, _, _, tyX5, rfl, inTX5, tyX5_ok, TT_3 62 rfl rfl, TT_3 63 rfl rfl, TT_1 19 rfl rfl, rfl, by decide +kernel⟩
set_option maxRecDepth 20000 in
theorem n_X11_196 : NK RX11 196 2 := ⟨_, _, _, tyX2, rfl, inTX2, tyX2_ok, TT_4 145 rfl rfl, TT_4 146 rfl rfl, TT_1 26 rfl rfl, rfl, by decide +kernel⟩
set_option maxRecDepth 20000 in
theorem n_X11_234 : NK RX11 234 9 := ⟨_, _, _, tyX9, rfl, inTX9, tyX9_ok, TT_5 160 rfl rfl, TT_5 161 rfl rfl, TT_1 28 rfl rfl, rfl, by decide +kernel⟩
set_option maxRecDepth 20000 in
theorem n_X11_276 : NK RX11 276 1 := ⟨_, _, _, tyX1, rfl, inTX1, tyX1_ok, TT_5 235 rfl rfl, TT_5 236 rfl rfl, TT_1 29 rfl rfl, rfl, by decide +kernel⟩
set_option maxRecDepth 20000 in
theorem n_X1_9 : NK RX1 9 8 := ⟨_, _, _, tyX8, rfl, inTX8, tyX8_ok, TT_6 1 rfl rfl, TT_1 128 rfl rfl, TT_1 6 rfl rfl, rfl, by decide +kernel⟩
set_option maxRecDepth 20000 in
theorem n_X1_21 : NK RX1 21 3 := ⟨_, _, _, tyX3, rfl, inTX3, tyX3_ok, TT_6 3 rfl rfl, TT_4 152 rfl rfl, TT_1 27 rfl rfl, rfl, by decide +kernel⟩
set_option maxRecDepth 20000 in
theorem n_X2_9 : NK RX2 9 3 := ⟨_, _, _, tyX3, rfl, inTX3, tyX3_ok, TT_4 151 rfl rfl, TT_4 152 rfl rfl, TT_1 27 rfl rfl, rfl, by decide +kernel⟩
set_option maxRecDepth 20000 in
theorem n_X2_18 : NK RX2 18 8 := ⟨_, _, _, tyX8, rfl, inTX8, tyX8_ok, TT_4 169 rfl rfl, TT_1 128 rfl rfl, TT_1 6 rfl rfl, rfl, by decide +kernel⟩
set_option maxRecDepth 20000 in
theorem n_X6_15 : NK RX6 15 4 := ⟨_, _, _, tyX4, rfl, inTX4, tyX4_ok, TT_1 113 rfl rfl, TT_3 150 rfl rfl, TT_1 21 rfl rfl, rfl, by decide +kernel⟩
set_option maxRecDepth 20000 in
theorem n_X10_9 : NK RX10 9 0 := ⟨_, _, _, tyX0, rfl, inTX0, tyX0_ok, TT_1 105 rfl rfl, TT_1 69 rfl rfl, TT_1 3 rfl rfl, rfl, by decide +kernel⟩
set_option maxRecDepth 20000 in
theorem n_X10_18 : NK RX10 18 6 := ⟨_, _, _, tyX6, rfl, inTX6, tyX6_ok, TT_1 107 rfl rfl, TT_1 108 rfl rfl, TT_1 5 rfl rfl, rfl, by decide +kernel⟩
set_option maxRecDepth 20000 in
theorem n_X10_25 : NK RX10 25 8 := ⟨_, _, _, tyX8, rfl, inTX8, tyX8_ok, TT_1 127 rfl rfl, TT_1 128 rfl rfl, TT_1 6 rfl rfl, rfl, by decide +kernel⟩
set_option maxRecDepth 20000 in
theorem n_L_8 : NK RL 8 11 := ⟨_, _, _, tyX11, rfl, inTX11, tyX11_ok, TT_1 30 rfl rfl, TT_1 31 rfl rfl, TT_1 1 rfl rfl, rfl, by decide +kernel⟩
set_option maxRecDepth 20000 in
theorem n_L_93 : NK RL 93 12 := ⟨_, _, _, tyX12, rfl, inTX12, tyX12_ok, TT_6 109 rfl rfl, TT_6 110 rfl rfl, TT_1 7 rfl rfl, rfl, by decide +kernel⟩
set_option maxRecDepth 20000 in
theorem k_X11_227 : Cond.constant RX11 227 (-2000000000) ∈ TT := TT_5 147 rfl rfl
set_option maxRecDepth 20000 in
theorem k_X11_247 : Cond.constant RX11 247 (500000) ∈ TT := TT_5 205 rfl rfl
set_option maxRecDepth 20000 in
theorem k_X11_262 : Cond.constant RX11 262 (500000000) ∈ TT := TT_5 209 rfl rfl
set_option maxRecDepth 20000 in
theorem k_X11_302 : Cond.constant RX11 302 (1103515245) ∈ TT := TT_6 103 rfl rfl
set_option maxRecDepth 20000 in
theorem k_X2_204 : Cond.constant RX2 204 (1000000000) ∈ TT := TT_5 93 rfl rfl
set_option maxRecDepth 20000 in
theorem k_X3_33 : Cond.constant RX3 33 (-1640531535) ∈ TT := TT_5 16 rfl rfl
set_option maxRecDepth 20000 in
theorem k_X9_45 : Cond.constant RX9 45 (1000000000) ∈ TT := TT_5 182 rfl rfl
set_option maxRecDepth 20000 in
theorem k_X12_60 : Cond.constant RX12 60 (124000) ∈ TT := TT_6 115 rfl rfl
set_option maxRecDepth 20000 in
theorem k_X12_273 : Cond.constant RX12 273 (1000000000) ∈ TT := TT_7 212 rfl rfl
set_option maxRecDepth 20000 in
theorem k_X12_274 : Cond.constant RX12 274 (-2000000000) ∈ TT := TT_7 217 rfl rfl
set_option maxRecDepth 20000 in
theorem k_X12_282 : Cond.constant RX12 282 (500000) ∈ TT := TT_7 238 rfl rfl
set_option maxRecDepth 20000 in
theorem k_X12_283 : Cond.constant RX12 283 (500000000) ∈ TT := TT_7 239 rfl rfl
set_option maxRecDepth 20000 in
theorem k_X12_308 : Cond.constant RX12 308 (1103515245) ∈ TT := TT_8 33 rfl rfl
set_option maxRecDepth 20000 in
theorem k_X2_216 : Cond.constantLong RX2 216 (100) ∈ TT := TT_5 106 rfl rfl
set_option maxRecDepth 20000 in
theorem k_X9_54 : Cond.constantLong RX9 54 (1000000000) ∈ TT := TT_5 190 rfl rfl
set_option maxRecDepth 20000 in
theorem k_X12_245 : Cond.constantLong RX12 245 (1000000000) ∈ TT := TT_7 198 rfl rfl
set_option maxRecDepth 20000 in
theorem k_X12_247 : Cond.constantLong RX12 247 (100) ∈ TT := TT_7 199 rfl rfl
set_option maxRecDepth 20000 in
theorem k_X12_306 : Cond.constantLong RX12 306 (-1) ∈ TT := TT_8 28 rfl rfl
set_option maxRecDepth 20000 in
theorem h_X11_init : Cond.code yX11_init prog_1_method_1_code 1 (none : Option FieldType) ∈ TT := TT_1 34 rfl rfl
set_option maxRecDepth 20000 in
theorem h_X11_append : Cond.code yX11_append prog_1_method_3_code 3 (none : Option FieldType) ∈ TT := TT_2 18 rfl rfl
set_option maxRecDepth 20000 in
theorem h_X11_back : Cond.code yX11_back prog_1_method_28_code 1 (Option.some FieldType.boolean) ∈ TT := TT_2 53 rfl rfl
set_option maxRecDepth 20000 in
theorem h_X11_begin : Cond.code yX11_begin prog_1_method_13_code 3 (none : Option FieldType) ∈ TT := TT_4 33 rfl rfl
set_option maxRecDepth 20000 in
theorem h_X11_best : Cond.code yX11_best prog_1_method_18_code 6 (Option.some FieldType.int) ∈ TT := TT_5 120 rfl rfl
set_option maxRecDepth 20000 in
theorem h_X11_bisque : Cond.code yX11_bisque prog_1_method_16_code 2 (Option.some FieldType.boolean) ∈ TT := TT_4 125 rfl rfl
set_option maxRecDepth 20000 in
theorem h_X11_chance : Cond.code yX11_chance prog_1_method_17_code 5 (Option.some FieldType.int) ∈ TT := TT_4 136 rfl rfl
set_option maxRecDepth 20000 in
theorem h_X11_count : Cond.code yX11_count prog_1_method_29_code 2 (Option.some FieldType.int) ∈ TT := TT_2 57 rfl rfl
set_option maxRecDepth 20000 in
theorem h_X11_court : Cond.code yX11_court prog_1_method_5_code 1 (Option.some FieldType.int) ∈ TT := TT_2 66 rfl rfl
set_option maxRecDepth 20000 in
theorem h_X11_end : Cond.code yX11_end prog_1_method_4_code 2 (Option.some FieldType.boolean) ∈ TT := TT_2 22 rfl rfl
set_option maxRecDepth 20000 in
theorem h_X11_even : Cond.code yX11_even prog_1_method_23_code 11 (Option.some FieldType.int) ∈ TT := TT_5 204 rfl rfl
set_option maxRecDepth 20000 in
theorem h_X11_fault : Cond.code yX11_fault prog_1_method_7_code 1 (Option.some FieldType.int) ∈ TT := TT_2 26 rfl rfl
set_option maxRecDepth 20000 in
theorem h_X11_feed : Cond.code yX11_feed prog_1_method_2_code 6 (Option.some FieldType.int) ∈ TT := TT_2 14 rfl rfl
set_option maxRecDepth 20000 in
theorem h_X11_freshOdds : Cond.code yX11_freshOdds prog_1_method_40_code 3 (Option.some (FieldType.object "ChaseCourt$Odds")) ∈ TT := TT_4 144 rfl rfl
set_option maxRecDepth 20000 in
theorem h_X11_games : Cond.code yX11_games prog_1_method_12_code 3 (none : Option FieldType) ∈ TT := TT_4 25 rfl rfl
set_option maxRecDepth 20000 in
theorem h_X11_howOf : Cond.code yX11_howOf prog_1_method_36_code 1 (Option.some FieldType.int) ∈ TT := TT_5 226 rfl rfl
set_option maxRecDepth 20000 in
theorem h_X11_image : Cond.code yX11_image prog_1_method_27_code 1 (none : Option FieldType) ∈ TT := TT_2 30 rfl rfl
set_option maxRecDepth 20000 in
theorem h_X11_log : Cond.code yX11_log prog_1_method_24_code 4 (Option.some FieldType.int) ∈ TT := TT_5 219 rfl rfl
set_option maxRecDepth 20000 in
theorem h_X11_look : Cond.code yX11_look prog_1_method_8_code 4 (Option.some FieldType.int) ∈ TT := TT_3 170 rfl rfl
set_option maxRecDepth 20000 in
theorem h_X11_mends : Cond.code yX11_mends prog_1_method_25_code 8 (Option.some FieldType.long) ∈ TT := TT_5 234 rfl rfl
set_option maxRecDepth 20000 in
theorem h_X11_needGoingOn : Cond.code yX11_needGoingOn prog_1_method_34_code 2 (none : Option FieldType) ∈ TT := TT_4 66 rfl rfl
set_option maxRecDepth 20000 in
theorem h_X11_needLine : Cond.code yX11_needLine prog_1_method_31_code 1 (none : Option FieldType) ∈ TT := TT_4 60 rfl rfl
set_option maxRecDepth 20000 in
theorem h_X11_needLog : Cond.code yX11_needLog prog_1_method_35_code 6 (none : Option FieldType) ∈ TT := TT_5 223 rfl rfl
set_option maxRecDepth 20000 in
theorem h_X11_needPlayer : Cond.code yX11_needPlayer prog_1_method_30_code 1 (none : Option FieldType) ∈ TT := TT_3 215 rfl rfl
set_option maxRecDepth 20000 in
theorem h_X11_needRallies : Cond.code yX11_needRallies prog_1_method_32_code 1 (none : Option FieldType) ∈ TT := TT_4 139 rfl rfl
set_option maxRecDepth 20000 in
theorem h_X11_needWhat : Cond.code yX11_needWhat prog_1_method_33_code 2 (none : Option FieldType) ∈ TT := TT_3 189 rfl rfl
set_option maxRecDepth 20000 in
theorem h_X11_newGame : Cond.code yX11_newGame prog_1_method_39_code 2 (Option.some (FieldType.object "ChaseCourt$Score")) ∈ TT := TT_5 159 rfl rfl
set_option maxRecDepth 20000 in
theorem h_X11_play : Cond.code yX11_play prog_1_method_26_code 7 (Option.some FieldType.int) ∈ TT := TT_6 101 rfl rfl
set_option maxRecDepth 20000 in
theorem h_X11_plays : Cond.code yX11_plays prog_1_method_9_code 4 (Option.some FieldType.int) ∈ TT := TT_3 212 rfl rfl
set_option maxRecDepth 20000 in
theorem h_X11_rally : Cond.code yX11_rally prog_1_method_15_code 3 (Option.some FieldType.int) ∈ TT := TT_4 57 rfl rfl
set_option maxRecDepth 20000 in
theorem h_X11_rule : Cond.code yX11_rule prog_1_method_6_code 1 (Option.some FieldType.int) ∈ TT := TT_3 61 rfl rfl
set_option maxRecDepth 20000 in
theorem h_X11_saves : Cond.code yX11_saves prog_1_method_19_code 7 (Option.some FieldType.int) ∈ TT := TT_5 131 rfl rfl
set_option maxRecDepth 20000 in
theorem h_X11_score : Cond.code yX11_score prog_1_method_11_code 6 (none : Option FieldType) ∈ TT := TT_4 13 rfl rfl
set_option maxRecDepth 20000 in
theorem h_X11_set : Cond.code yX11_set prog_1_method_21_code 9 (Option.some FieldType.int) ∈ TT := TT_5 155 rfl rfl
set_option maxRecDepth 20000 in
theorem h_X11_stands : Cond.code yX11_stands prog_1_method_14_code 2 (Option.some FieldType.int) ∈ TT := TT_4 41 rfl rfl
set_option maxRecDepth 20000 in
theorem h_X11_style : Cond.code yX11_style prog_1_method_10_code 2 (Option.some FieldType.int) ∈ TT := TT_3 224 rfl rfl
set_option maxRecDepth 20000 in
theorem h_X11_useUp : Cond.code yX11_useUp prog_1_method_37_code 2 (Option.some FieldType.int) ∈ TT := TT_2 70 rfl rfl
set_option maxRecDepth 20000 in
theorem h_X11_ways : Cond.code yX11_ways prog_1_method_22_code 7 (Option.some FieldType.int) ∈ TT := TT_5 197 rfl rfl
set_option maxRecDepth 20000 in
theorem h_X11_waysOf : Cond.code yX11_waysOf prog_1_method_38_code 1 (Option.some FieldType.int) ∈ TT := TT_5 80 rfl rfl
set_option maxRecDepth 20000 in
theorem h_X11_worth : Cond.code yX11_worth prog_1_method_20_code 7 (Option.some FieldType.int) ∈ TT := TT_5 146 rfl rfl
set_option maxRecDepth 20000 in
theorem h_X0_init : Cond.code yX0_init prog_2_method_1_code 2 (none : Option FieldType) ∈ TT := TT_1 72 rfl rfl
set_option maxRecDepth 20000 in
theorem h_X0_addUp : Cond.code yX0_addUp prog_2_method_7_code 4 (Option.some FieldType.boolean) ∈ TT := TT_2 209 rfl rfl
set_option maxRecDepth 20000 in
theorem h_X0_drawOutcome : Cond.code yX0_drawOutcome prog_2_method_9_code 5 (Option.some FieldType.int) ∈ TT := TT_6 108 rfl rfl
set_option maxRecDepth 20000 in
theorem h_X0_pointBy : Cond.code yX0_pointBy prog_2_method_8_code 2 (Option.some FieldType.int) ∈ TT := TT_4 97 rfl rfl
set_option maxRecDepth 20000 in
theorem h_X0_readLine : Cond.code yX0_readLine prog_2_method_4_code 2 (Option.some FieldType.boolean) ∈ TT := TT_2 186 rfl rfl
set_option maxRecDepth 20000 in
theorem h_X0_readOutcome : Cond.code yX0_readOutcome prog_2_method_6_code 2 (Option.some FieldType.int) ∈ TT := TT_2 201 rfl rfl
set_option maxRecDepth 20000 in
theorem h_X0_readRally : Cond.code yX0_readRally prog_2_method_5_code 6 (Option.some FieldType.boolean) ∈ TT := TT_2 194 rfl rfl
set_option maxRecDepth 20000 in
theorem h_X0_readText : Cond.code yX0_readText prog_2_method_3_code 3 (Option.some FieldType.int) ∈ TT := TT_2 178 rfl rfl
set_option maxRecDepth 20000 in
theorem h_X0_takeFrom : Cond.code yX0_takeFrom prog_2_method_2_code 2 (none : Option FieldType) ∈ TT := TT_2 38 rfl rfl
set_option maxRecDepth 20000 in
theorem h_X1_init : Cond.code yX1_init prog_3_method_1_code 1 (none : Option FieldType) ∈ TT := TT_5 239 rfl rfl
set_option maxRecDepth 20000 in
theorem h_X1_close : Cond.code yX1_close prog_3_method_8_code 7 (none : Option FieldType) ∈ TT := TT_6 90 rfl rfl
set_option maxRecDepth 20000 in
theorem h_X1_fetch : Cond.code yX1_fetch prog_3_method_5_code 3 (none : Option FieldType) ∈ TT := TT_6 75 rfl rfl
set_option maxRecDepth 20000 in
theorem h_X1_follow : Cond.code yX1_follow prog_3_method_4_code 8 (none : Option FieldType) ∈ TT := TT_6 82 rfl rfl
set_option maxRecDepth 20000 in
theorem h_X1_open : Cond.code yX1_open prog_3_method_2_code 2 (none : Option FieldType) ∈ TT := TT_6 45 rfl rfl
set_option maxRecDepth 20000 in
theorem h_X1_reach : Cond.code yX1_reach prog_3_method_6_code 7 (none : Option FieldType) ∈ TT := TT_6 51 rfl rfl
set_option maxRecDepth 20000 in
theorem h_X1_step : Cond.code yX1_step prog_3_method_3_code 4 (none : Option FieldType) ∈ TT := TT_6 71 rfl rfl
set_option maxRecDepth 20000 in
theorem h_X1_tally : Cond.code yX1_tally prog_3_method_9_code 4 (none : Option FieldType) ∈ TT := TT_6 94 rfl rfl
set_option maxRecDepth 20000 in
theorem h_X1_turn : Cond.code yX1_turn prog_3_method_7_code 4 (none : Option FieldType) ∈ TT := TT_6 67 rfl rfl
set_option maxRecDepth 20000 in
theorem h_X2_init : Cond.code yX2_init prog_4_method_1_code 1 (none : Option FieldType) ∈ TT := TT_4 149 rfl rfl
set_option maxRecDepth 20000 in
theorem h_X2_choiceAt : Cond.code yX2_choiceAt prog_4_method_22_code 3 (Option.some FieldType.int) ∈ TT := TT_5 124 rfl rfl
set_option maxRecDepth 20000 in
theorem h_X2_fillEnds : Cond.code yX2_fillEnds prog_4_method_15_code 5 (none : Option FieldType) ∈ TT := TT_5 92 rfl rfl
set_option maxRecDepth 20000 in
theorem h_X2_fillOff : Cond.code yX2_fillOff prog_4_method_8_code 6 (none : Option FieldType) ∈ TT := TT_5 64 rfl rfl
set_option maxRecDepth 20000 in
theorem h_X2_fillWeights : Cond.code yX2_fillWeights prog_4_method_7_code 7 (none : Option FieldType) ∈ TT := TT_5 60 rfl rfl
set_option maxRecDepth 20000 in
theorem h_X2_makeRoom : Cond.code yX2_makeRoom prog_4_method_12_code 2 (none : Option FieldType) ∈ TT := TT_5 28 rfl rfl
set_option maxRecDepth 20000 in
theorem h_X2_makeRows : Cond.code yX2_makeRows prog_4_method_13_code 2 (none : Option FieldType) ∈ TT := TT_5 88 rfl rfl
set_option maxRecDepth 20000 in
theorem h_X2_mayCome : Cond.code yX2_mayCome prog_4_method_9_code 3 (Option.some FieldType.boolean) ∈ TT := TT_5 70 rfl rfl
set_option maxRecDepth 20000 in
theorem h_X2_most : Cond.code yX2_most prog_4_method_17_code 5 (Option.some FieldType.int) ∈ TT := TT_5 101 rfl rfl
set_option maxRecDepth 20000 in
theorem h_X2_open : Cond.code yX2_open prog_4_method_2_code 4 (none : Option FieldType) ∈ TT := TT_4 226 rfl rfl
set_option maxRecDepth 20000 in
theorem h_X2_placeBehind : Cond.code yX2_placeBehind prog_4_method_10_code 1 (Option.some FieldType.int) ∈ TT := TT_5 46 rfl rfl
set_option maxRecDepth 20000 in
theorem h_X2_placeOf : Cond.code yX2_placeOf prog_4_method_3_code 2 (Option.some FieldType.int) ∈ TT := TT_4 238 rfl rfl
set_option maxRecDepth 20000 in
theorem h_X2_savedAt : Cond.code yX2_savedAt prog_4_method_20_code 2 (Option.some FieldType.int) ∈ TT := TT_5 139 rfl rfl
set_option maxRecDepth 20000 in
theorem h_X2_spread : Cond.code yX2_spread prog_4_method_6_code 4 (none : Option FieldType) ∈ TT := TT_5 51 rfl rfl
set_option maxRecDepth 20000 in
theorem h_X2_spreadAll : Cond.code yX2_spreadAll prog_4_method_4_code 6 (none : Option FieldType) ∈ TT := TT_5 20 rfl rfl
set_option maxRecDepth 20000 in
theorem h_X2_takeAll : Cond.code yX2_takeAll prog_4_method_5_code 4 (none : Option FieldType) ∈ TT := TT_5 24 rfl rfl
set_option maxRecDepth 20000 in
theorem h_X2_takesAt : Cond.code yX2_takesAt prog_4_method_21_code 2 (Option.some FieldType.boolean) ∈ TT := TT_5 135 rfl rfl
set_option maxRecDepth 20000 in
theorem h_X2_valueAt : Cond.code yX2_valueAt prog_4_method_19_code 2 (Option.some FieldType.int) ∈ TT := TT_5 113 rfl rfl
set_option maxRecDepth 20000 in
theorem h_X2_weigh : Cond.code yX2_weigh prog_4_method_18_code 8 (Option.some FieldType.int) ∈ TT := TT_5 105 rfl rfl
set_option maxRecDepth 20000 in
theorem h_X2_weighAll : Cond.code yX2_weighAll prog_4_method_14_code 5 (none : Option FieldType) ∈ TT := TT_5 84 rfl rfl
set_option maxRecDepth 20000 in
theorem h_X2_weighLevel : Cond.code yX2_weighLevel prog_4_method_16_code 4 (none : Option FieldType) ∈ TT := TT_5 97 rfl rfl
set_option maxRecDepth 20000 in
theorem h_X2_write : Cond.code yX2_write prog_4_method_11_code 4 (none : Option FieldType) ∈ TT := TT_5 77 rfl rfl
set_option maxRecDepth 20000 in
theorem h_X3_init : Cond.code yX3_init prog_5_method_1_code 1 (none : Option FieldType) ∈ TT := TT_4 155 rfl rfl
set_option maxRecDepth 20000 in
theorem h_X3_clear : Cond.code yX3_clear prog_5_method_2_code 1 (none : Option FieldType) ∈ TT := TT_4 230 rfl rfl
set_option maxRecDepth 20000 in
theorem h_X3_grow : Cond.code yX3_grow prog_5_method_7_code 2 (none : Option FieldType) ∈ TT := TT_5 10 rfl rfl
set_option maxRecDepth 20000 in
theorem h_X3_keyAt : Cond.code yX3_keyAt prog_5_method_4_code 2 (Option.some FieldType.int) ∈ TT := TT_5 37 rfl rfl
set_option maxRecDepth 20000 in
theorem h_X3_placeOf : Cond.code yX3_placeOf prog_5_method_5_code 3 (Option.some FieldType.int) ∈ TT := TT_5 6 rfl rfl
set_option maxRecDepth 20000 in
theorem h_X3_room : Cond.code yX3_room prog_5_method_3_code 1 (Option.some FieldType.int) ∈ TT := TT_5 32 rfl rfl
set_option maxRecDepth 20000 in
theorem h_X3_slotOf : Cond.code yX3_slotOf prog_5_method_6_code 4 (Option.some FieldType.int) ∈ TT := TT_5 15 rfl rfl
set_option maxRecDepth 20000 in
theorem h_X4_init : Cond.code yX4_init prog_6_method_1_code 2 (none : Option FieldType) ∈ TT := TT_3 153 rfl rfl
set_option maxRecDepth 20000 in
theorem h_X4_fact : Cond.code yX4_fact prog_6_method_6_code 3 (Option.some FieldType.int) ∈ TT := TT_4 6 rfl rfl
set_option maxRecDepth 20000 in
theorem h_X4_holds : Cond.code yX4_holds prog_6_method_3_code 8 (Option.some FieldType.boolean) ∈ TT := TT_3 237 rfl rfl
set_option maxRecDepth 20000 in
theorem h_X4_joined : Cond.code yX4_joined prog_6_method_5_code 3 (Option.some FieldType.int) ∈ TT := TT_4 3 rfl rfl
set_option maxRecDepth 20000 in
theorem h_X4_joins : Cond.code yX4_joins prog_6_method_4_code 1 (Option.some FieldType.boolean) ∈ TT := TT_4 0 rfl rfl
set_option maxRecDepth 20000 in
theorem h_X4_styleOf : Cond.code yX4_styleOf prog_6_method_2_code 6 (Option.some FieldType.int) ∈ TT := TT_3 232 rfl rfl
set_option maxRecDepth 20000 in
theorem h_X5_init : Cond.code yX5_init prog_7_method_1_code 1 (none : Option FieldType) ∈ TT := TT_3 66 rfl rfl
set_option maxRecDepth 20000 in
theorem h_X5_isPart : Cond.code yX5_isPart prog_7_method_11_code 1 (Option.some FieldType.boolean) ∈ TT := TT_3 126 rfl rfl
set_option maxRecDepth 20000 in
theorem h_X5_read : Cond.code yX5_read prog_7_method_2_code 3 (Option.some FieldType.int) ∈ TT := TT_3 84 rfl rfl
set_option maxRecDepth 20000 in
theorem h_X5_readAll : Cond.code yX5_readAll prog_7_method_6_code 3 (Option.some FieldType.boolean) ∈ TT := TT_3 103 rfl rfl
set_option maxRecDepth 20000 in
theorem h_X5_readAny : Cond.code yX5_readAny prog_7_method_5_code 3 (Option.some FieldType.boolean) ∈ TT := TT_3 99 rfl rfl
set_option maxRecDepth 20000 in
theorem h_X5_readAtom : Cond.code yX5_readAtom prog_7_method_7_code 3 (Option.some FieldType.boolean) ∈ TT := TT_3 107 rfl rfl
set_option maxRecDepth 20000 in
theorem h_X5_readCompared : Cond.code yX5_readCompared prog_7_method_9_code 2 (Option.some FieldType.boolean) ∈ TT := TT_3 119 rfl rfl
set_option maxRecDepth 20000 in
theorem h_X5_readHead : Cond.code yX5_readHead prog_7_method_4_code 2 (Option.some FieldType.boolean) ∈ TT := TT_3 89 rfl rfl
set_option maxRecDepth 20000 in
theorem h_X5_readInner : Cond.code yX5_readInner prog_7_method_8_code 3 (Option.some FieldType.boolean) ∈ TT := TT_3 111 rfl rfl
set_option maxRecDepth 20000 in
theorem h_X5_readSum : Cond.code yX5_readSum prog_7_method_10_code 4 (Option.some FieldType.boolean) ∈ TT := TT_3 123 rfl rfl
set_option maxRecDepth 20000 in
theorem h_X5_write : Cond.code yX5_write prog_7_method_12_code 2 (none : Option FieldType) ∈ TT := TT_3 95 rfl rfl
set_option maxRecDepth 20000 in
theorem h_X5_written : Cond.code yX5_written prog_7_method_3_code 1 (Option.some (FieldType.array FieldType.int)) ∈ TT := TT_3 133 rfl rfl
set_option maxRecDepth 20000 in
theorem h_X6_init : Cond.code yX6_init prog_8_method_1_code 1 (none : Option FieldType) ∈ TT := TT_1 111 rfl rfl
set_option maxRecDepth 20000 in
theorem h_X6_add : Cond.code yX6_add prog_8_method_3_code 2 (Option.some FieldType.int) ∈ TT := TT_3 149 rfl rfl
set_option maxRecDepth 20000 in
theorem h_X6_styleOf : Cond.code yX6_styleOf prog_8_method_4_code 4 (Option.some FieldType.int) ∈ TT := TT_3 228 rfl rfl
set_option maxRecDepth 20000 in
theorem h_X6_takeFrom : Cond.code yX6_takeFrom prog_8_method_2_code 3 (none : Option FieldType) ∈ TT := TT_2 45 rfl rfl
set_option maxRecDepth 20000 in
theorem h_X7_init : Cond.code yX7_init prog_9_method_1_code 1 (none : Option FieldType) ∈ TT := TT_1 42 rfl rfl
set_option maxRecDepth 20000 in
theorem h_X7_courtWordAt : Cond.code yX7_courtWordAt prog_9_method_8_code 3 (Option.some FieldType.int) ∈ TT := TT_2 92 rfl rfl
set_option maxRecDepth 20000 in
theorem h_X7_isDigit : Cond.code yX7_isDigit prog_9_method_5_code 1 (Option.some FieldType.boolean) ∈ TT := TT_2 169 rfl rfl
set_option maxRecDepth 20000 in
theorem h_X7_isLetter : Cond.code yX7_isLetter prog_9_method_4_code 1 (Option.some FieldType.boolean) ∈ TT := TT_2 84 rfl rfl
set_option maxRecDepth 20000 in
theorem h_X7_numberAt : Cond.code yX7_numberAt prog_9_method_6_code 5 (Option.some FieldType.int) ∈ TT := TT_2 173 rfl rfl
set_option maxRecDepth 20000 in
theorem h_X7_pass : Cond.code yX7_pass prog_9_method_13_code 1 (none : Option FieldType) ∈ TT := TT_3 115 rfl rfl
set_option maxRecDepth 20000 in
theorem h_X7_passNumber : Cond.code yX7_passNumber prog_9_method_15_code 3 (Option.some FieldType.int) ∈ TT := TT_2 198 rfl rfl
set_option maxRecDepth 20000 in
theorem h_X7_passes : Cond.code yX7_passes prog_9_method_14_code 2 (Option.some FieldType.boolean) ∈ TT := TT_2 190 rfl rfl
set_option maxRecDepth 20000 in
theorem h_X7_place : Cond.code yX7_place prog_9_method_12_code 1 (Option.some FieldType.int) ∈ TT := TT_2 205 rfl rfl
set_option maxRecDepth 20000 in
theorem h_X7_ruleWordAt : Cond.code yX7_ruleWordAt prog_9_method_9_code 3 (Option.some FieldType.int) ∈ TT := TT_2 155 rfl rfl
set_option maxRecDepth 20000 in
theorem h_X7_scan : Cond.code yX7_scan prog_9_method_2_code 5 (none : Option FieldType) ∈ TT := TT_2 74 rfl rfl
set_option maxRecDepth 20000 in
theorem h_X7_scanThing : Cond.code yX7_scanThing prog_9_method_3_code 3 (Option.some FieldType.int) ∈ TT := TT_2 81 rfl rfl
set_option maxRecDepth 20000 in
theorem h_X7_spells : Cond.code yX7_spells prog_9_method_10_code 5 (Option.some FieldType.boolean) ∈ TT := TT_2 97 rfl rfl
set_option maxRecDepth 20000 in
theorem h_X7_thing : Cond.code yX7_thing prog_9_method_11_code 1 (Option.some FieldType.int) ∈ TT := TT_2 182 rfl rfl
set_option maxRecDepth 20000 in
theorem h_X7_wordAt : Cond.code yX7_wordAt prog_9_method_7_code 4 (Option.some FieldType.int) ∈ TT := TT_2 88 rfl rfl
set_option maxRecDepth 20000 in
theorem h_X8_init : Cond.code yX8_init prog_10_method_1_code 1 (none : Option FieldType) ∈ TT := TT_1 131 rfl rfl
set_option maxRecDepth 20000 in
theorem h_X8_addChase : Cond.code yX8_addChase prog_10_method_10_code 2 (none : Option FieldType) ∈ TT := TT_4 114 rfl rfl
set_option maxRecDepth 20000 in
theorem h_X8_become : Cond.code yX8_become prog_10_method_15_code 4 (none : Option FieldType) ∈ TT := TT_5 41 rfl rfl
set_option maxRecDepth 20000 in
theorem h_X8_changeEnds : Cond.code yX8_changeEnds prog_10_method_13_code 2 (none : Option FieldType) ∈ TT := TT_4 118 rfl rfl
set_option maxRecDepth 20000 in
theorem h_X8_code : Cond.code yX8_code prog_10_method_14_code 2 (Option.some FieldType.int) ∈ TT := TT_5 2 rfl rfl
set_option maxRecDepth 20000 in
theorem h_X8_givePoint : Cond.code yX8_givePoint prog_10_method_11_code 2 (none : Option FieldType) ∈ TT := TT_4 105 rfl rfl
set_option maxRecDepth 20000 in
theorem h_X8_isOver : Cond.code yX8_isOver prog_10_method_4_code 2 (Option.some FieldType.boolean) ∈ TT := TT_4 70 rfl rfl
set_option maxRecDepth 20000 in
theorem h_X8_isPointOfGame : Cond.code yX8_isPointOfGame prog_10_method_5_code 1 (Option.some FieldType.boolean) ∈ TT := TT_4 49 rfl rfl
set_option maxRecDepth 20000 in
theorem h_X8_playOff : Cond.code yX8_playOff prog_10_method_8_code 2 (none : Option FieldType) ∈ TT := TT_4 101 rfl rfl
set_option maxRecDepth 20000 in
theorem h_X8_point : Cond.code yX8_point prog_10_method_12_code 4 (Option.some FieldType.boolean) ∈ TT := TT_4 109 rfl rfl
set_option maxRecDepth 20000 in
theorem h_X8_restart : Cond.code yX8_restart prog_10_method_3_code 4 (none : Option FieldType) ∈ TT := TT_4 18 rfl rfl
set_option maxRecDepth 20000 in
theorem h_X8_strike : Cond.code yX8_strike prog_10_method_7_code 6 (Option.some FieldType.int) ∈ TT := TT_4 90 rfl rfl
set_option maxRecDepth 20000 in
theorem h_X8_takeBisque : Cond.code yX8_takeBisque prog_10_method_9_code 4 (Option.some FieldType.boolean) ∈ TT := TT_4 129 rfl rfl
set_option maxRecDepth 20000 in
theorem h_X8_takeFrom : Cond.code yX8_takeFrom prog_10_method_2_code 2 (none : Option FieldType) ∈ TT := TT_2 49 rfl rfl
set_option maxRecDepth 20000 in
theorem h_X8_tell : Cond.code yX8_tell prog_10_method_6_code 2 (Option.some FieldType.int) ∈ TT := TT_4 45 rfl rfl
set_option maxRecDepth 20000 in
theorem h_X9_init : Cond.code yX9_init prog_11_method_1_code 1 (none : Option FieldType) ∈ TT := TT_5 164 rfl rfl
set_option maxRecDepth 20000 in
theorem h_X9_chanceOf : Cond.code yX9_chanceOf prog_11_method_2_code 9 (Option.some FieldType.int) ∈ TT := TT_5 181 rfl rfl
set_option maxRecDepth 20000 in
theorem h_X9_indexOf : Cond.code yX9_indexOf prog_11_method_3_code 3 (Option.some FieldType.int) ∈ TT := TT_5 185 rfl rfl
set_option maxRecDepth 20000 in
theorem h_X9_sum : Cond.code yX9_sum prog_11_method_4_code 10 (Option.some FieldType.int) ∈ TT := TT_5 189 rfl rfl
set_option maxRecDepth 20000 in
theorem h_X10_init : Cond.code yX10_init prog_12_method_1_code 1 (none : Option FieldType) ∈ TT := TT_1 103 rfl rfl
set_option maxRecDepth 20000 in
theorem h_X10_pairOf : Cond.code yX10_pairOf prog_12_method_3_code 2 (Option.some FieldType.int) ∈ TT := TT_5 55 rfl rfl
set_option maxRecDepth 20000 in
theorem h_X10_takeFrom : Cond.code yX10_takeFrom prog_12_method_2_code 2 (none : Option FieldType) ∈ TT := TT_2 34 rfl rfl
set_option maxRecDepth 20000 in
theorem h_L_begin : Cond.codeWith yL_begin method_10_code 4 (Option.some FieldType.int) [((0 : Nat), (6 : Nat), (9 : Nat), (13 : Nat))] ∈ TT := TT_4 29 rfl rfl
set_option maxRecDepth 20000 in
theorem h_L_best : Cond.codeWith yL_best method_15_code 6 (Option.some FieldType.int) [((0 : Nat), (12 : Nat), (15 : Nat), (24 : Nat)), ((0 : Nat), (12 : Nat), (19 : Nat), (13 : Nat)), ((0 : Nat), (12 : Nat), (23 : Nat), (53 : Nat))] ∈ TT := TT_5 116 rfl rfl
set_option maxRecDepth 20000 in
theorem h_L_bisque : Cond.codeWith yL_bisque method_13_code 4 (Option.some FieldType.int) [((0 : Nat), (16 : Nat), (19 : Nat), (24 : Nat)), ((0 : Nat), (16 : Nat), (22 : Nat), (53 : Nat))] ∈ TT := TT_4 121 rfl rfl
set_option maxRecDepth 20000 in
theorem h_L_chance : Cond.codeWith yL_chance method_14_code 5 (Option.some FieldType.int) [((0 : Nat), (10 : Nat), (13 : Nat), (24 : Nat)), ((0 : Nat), (10 : Nat), (17 : Nat), (13 : Nat)), ((0 : Nat), (10 : Nat), (21 : Nat), (53 : Nat))] ∈ TT := TT_4 132 rfl rfl
set_option maxRecDepth 20000 in
theorem h_L_court : Cond.codeWith yL_court method_3_code 3 (Option.some FieldType.int) [((0 : Nat), (8 : Nat), (11 : Nat), (13 : Nat)), ((0 : Nat), (8 : Nat), (14 : Nat), (15 : Nat))] ∈ TT := TT_2 60 rfl rfl
set_option maxRecDepth 20000 in
theorem h_L_even : Cond.codeWith yL_even method_20_code 5 (Option.some FieldType.int) [((0 : Nat), (10 : Nat), (13 : Nat), (13 : Nat))] ∈ TT := TT_5 200 rfl rfl
set_option maxRecDepth 20000 in
theorem h_L_games : Cond.codeWith yL_games method_9_code 4 (Option.some FieldType.int) [((0 : Nat), (6 : Nat), (9 : Nat), (13 : Nat))] ∈ TT := TT_4 21 rfl rfl
set_option maxRecDepth 20000 in
theorem h_L_log : Cond.codeWith yL_log method_21_code 4 (Option.some FieldType.int) [((0 : Nat), (9 : Nat), (12 : Nat), (13 : Nat)), ((0 : Nat), (9 : Nat), (15 : Nat), (53 : Nat)), ((0 : Nat), (9 : Nat), (18 : Nat), (26 : Nat))] ∈ TT := TT_5 215 rfl rfl
set_option maxRecDepth 20000 in
theorem h_L_look : Cond.codeWith yL_look method_5_code 6 (Option.some FieldType.int) [((0 : Nat), (12 : Nat), (15 : Nat), (24 : Nat)), ((0 : Nat), (12 : Nat), (19 : Nat), (26 : Nat))] ∈ TT := TT_3 164 rfl rfl
set_option maxRecDepth 20000 in
theorem h_L_mends : Cond.codeWith yL_mends method_22_code 8 (Option.some FieldType.int) [((0 : Nat), (15 : Nat), (18 : Nat), (13 : Nat))] ∈ TT := TT_5 230 rfl rfl
set_option maxRecDepth 20000 in
theorem h_L_play : Cond.codeWith yL_play method_23_code 6 (Option.some FieldType.int) [((0 : Nat), (12 : Nat), (15 : Nat), (13 : Nat)), ((0 : Nat), (12 : Nat), (19 : Nat), (26 : Nat))] ∈ TT := TT_6 97 rfl rfl
set_option maxRecDepth 20000 in
theorem h_L_plays : Cond.codeWith yL_plays method_6_code 5 (Option.some FieldType.int) [((0 : Nat), (10 : Nat), (13 : Nat), (24 : Nat))] ∈ TT := TT_3 208 rfl rfl
set_option maxRecDepth 20000 in
theorem h_L_rally : Cond.codeWith yL_rally method_12_code 5 (Option.some FieldType.int) [((0 : Nat), (10 : Nat), (13 : Nat), (24 : Nat)), ((0 : Nat), (10 : Nat), (17 : Nat), (13 : Nat)), ((0 : Nat), (10 : Nat), (21 : Nat), (53 : Nat))] ∈ TT := TT_4 52 rfl rfl
set_option maxRecDepth 20000 in
theorem h_L_rule : Cond.codeWith yL_rule method_4_code 3 (Option.some FieldType.int) [((0 : Nat), (8 : Nat), (11 : Nat), (13 : Nat)), ((0 : Nat), (8 : Nat), (14 : Nat), (15 : Nat))] ∈ TT := TT_3 57 rfl rfl
set_option maxRecDepth 20000 in
theorem h_L_saves : Cond.codeWith yL_saves method_16_code 6 (Option.some FieldType.int) [((0 : Nat), (12 : Nat), (15 : Nat), (24 : Nat)), ((0 : Nat), (12 : Nat), (19 : Nat), (13 : Nat)), ((0 : Nat), (12 : Nat), (23 : Nat), (53 : Nat)), ((0 : Nat), (12 : Nat), (27 : Nat), (26 : Nat))] ∈ TT := TT_5 127 rfl rfl
set_option maxRecDepth 20000 in
theorem h_L_score : Cond.codeWith yL_score method_8_code 5 (Option.some FieldType.int) [((0 : Nat), (7 : Nat), (10 : Nat), (24 : Nat)), ((0 : Nat), (7 : Nat), (14 : Nat), (13 : Nat))] ∈ TT := TT_4 9 rfl rfl
set_option maxRecDepth 20000 in
theorem h_L_set : Cond.codeWith yL_set method_18_code 5 (Option.some FieldType.int) [((0 : Nat), (10 : Nat), (13 : Nat), (24 : Nat)), ((0 : Nat), (10 : Nat), (17 : Nat), (13 : Nat)), ((0 : Nat), (10 : Nat), (21 : Nat), (53 : Nat))] ∈ TT := TT_5 151 rfl rfl
set_option maxRecDepth 20000 in
theorem h_L_stands : Cond.codeWith yL_stands method_11_code 4 (Option.some FieldType.int) [((0 : Nat), (9 : Nat), (12 : Nat), (26 : Nat))] ∈ TT := TT_4 37 rfl rfl
set_option maxRecDepth 20000 in
theorem h_L_style : Cond.codeWith yL_style method_7_code 4 (Option.some FieldType.int) [((0 : Nat), (9 : Nat), (12 : Nat), (24 : Nat))] ∈ TT := TT_3 220 rfl rfl
set_option maxRecDepth 20000 in
theorem h_L_ways : Cond.codeWith yL_ways method_19_code 7 (Option.some FieldType.int) [((0 : Nat), (14 : Nat), (17 : Nat), (24 : Nat)), ((0 : Nat), (14 : Nat), (21 : Nat), (13 : Nat))] ∈ TT := TT_5 193 rfl rfl
set_option maxRecDepth 20000 in
theorem h_L_worth : Cond.codeWith yL_worth method_17_code 6 (Option.some FieldType.int) [((0 : Nat), (12 : Nat), (15 : Nat), (24 : Nat)), ((0 : Nat), (12 : Nat), (19 : Nat), (13 : Nat)), ((0 : Nat), (12 : Nat), (23 : Nat), (53 : Nat))] ∈ TT := TT_5 142 rfl rfl
set_option maxRecDepth 20000 in
theorem h_X12_init : Cond.code yX12_init prog_14_method_1_code 2 (none : Option FieldType) ∈ TT := TT_6 113 rfl rfl
set_option maxRecDepth 20000 in
theorem h_X12_allStyles : Cond.code yX12_allStyles prog_14_method_47_code 2 (none : Option FieldType) ∈ TT := TT_7 174 rfl rfl
set_option maxRecDepth 20000 in
theorem h_X12_atNow : Cond.code yX12_atNow prog_14_method_52_code 1 (Option.some FieldType.int) ∈ TT := TT_7 203 rfl rfl
set_option maxRecDepth 20000 in
theorem h_X12_atom : Cond.code yX12_atom prog_14_method_19_code 4 (Option.some FieldType.boolean) ∈ TT := TT_7 35 rfl rfl
set_option maxRecDepth 20000 in
theorem h_X12_back : Cond.code yX12_back prog_14_method_72_code 2 (Option.some FieldType.boolean) ∈ TT := TT_8 41 rfl rfl
set_option maxRecDepth 20000 in
theorem h_X12_begin : Cond.code yX12_begin prog_14_method_33_code 3 (none : Option FieldType) ∈ TT := TT_7 114 rfl rfl
set_option maxRecDepth 20000 in
theorem h_X12_beginNumber : Cond.code yX12_beginNumber prog_14_method_58_code 3 (Option.some FieldType.int) ∈ TT := TT_7 225 rfl rfl
set_option maxRecDepth 20000 in
theorem h_X12_best : Cond.code yX12_best prog_14_method_55_code 12 (Option.some FieldType.int) ∈ TT := TT_7 207 rfl rfl
set_option maxRecDepth 20000 in
theorem h_X12_bisque : Cond.code yX12_bisque prog_14_method_44_code 2 (Option.some FieldType.boolean) ∈ TT := TT_7 158 rfl rfl
set_option maxRecDepth 20000 in
theorem h_X12_byStyles : Cond.code yX12_byStyles prog_14_method_50_code 6 (Option.some FieldType.int) ∈ TT := TT_7 189 rfl rfl
set_option maxRecDepth 20000 in
theorem h_X12_canBe : Cond.code yX12_canBe prog_14_method_48_code 3 (Option.some FieldType.boolean) ∈ TT := TT_7 185 rfl rfl
set_option maxRecDepth 20000 in
theorem h_X12_chance : Cond.code yX12_chance prog_14_method_54_code 3 (Option.some FieldType.int) ∈ TT := TT_7 166 rfl rfl
set_option maxRecDepth 20000 in
theorem h_X12_changes : Cond.code yX12_changes prog_14_method_39_code 2 (none : Option FieldType) ∈ TT := TT_7 146 rfl rfl
set_option maxRecDepth 20000 in
theorem h_X12_count : Cond.code yX12_count prog_14_method_73_code 2 (Option.some FieldType.int) ∈ TT := TT_8 45 rfl rfl
set_option maxRecDepth 20000 in
theorem h_X12_court : Cond.code yX12_court prog_14_method_15_code 4 (Option.some FieldType.int) ∈ TT := TT_6 231 rfl rfl
set_option maxRecDepth 20000 in
theorem h_X12_courtLine : Cond.code yX12_courtLine prog_14_method_13_code 5 (none : Option FieldType) ∈ TT := TT_7 65 rfl rfl
set_option maxRecDepth 20000 in
theorem h_X12_end : Cond.code yX12_end prog_14_method_6_code 2 (Option.some FieldType.boolean) ∈ TT := TT_6 224 rfl rfl
set_option maxRecDepth 20000 in
theorem h_X12_even : Cond.code yX12_even prog_14_method_62_code 7 (Option.some FieldType.int) ∈ TT := TT_7 237 rfl rfl
set_option maxRecDepth 20000 in
theorem h_X12_every : Cond.code yX12_every prog_14_method_20_code 3 (Option.some FieldType.boolean) ∈ TT := TT_7 31 rfl rfl
set_option maxRecDepth 20000 in
theorem h_X12_fault : Cond.code yX12_fault prog_14_method_24_code 1 (Option.some FieldType.int) ∈ TT := TT_7 79 rfl rfl
set_option maxRecDepth 20000 in
theorem h_X12_feed : Cond.code yX12_feed prog_14_method_5_code 8 (Option.some FieldType.int) ∈ TT := TT_6 220 rfl rfl
set_option maxRecDepth 20000 in
theorem h_X12_figures : Cond.code yX12_figures prog_14_method_12_code 5 (Option.some FieldType.int) ∈ TT := TT_7 22 rfl rfl
set_option maxRecDepth 20000 in
theorem h_X12_games : Cond.code yX12_games prog_14_method_32_code 3 (none : Option FieldType) ∈ TT := TT_7 110 rfl rfl
set_option maxRecDepth 20000 in
theorem h_X12_gone : Cond.code yX12_gone prog_14_method_40_code 1 (none : Option FieldType) ∈ TT := TT_7 150 rfl rfl
set_option maxRecDepth 20000 in
theorem h_X12_had : Cond.code yX12_had prog_14_method_49_code 11 (Option.some FieldType.int) ∈ TT := TT_7 193 rfl rfl
set_option maxRecDepth 20000 in
theorem h_X12_has : Cond.code yX12_has prog_14_method_10_code 4 (Option.some FieldType.boolean) ∈ TT := TT_7 16 rfl rfl
set_option maxRecDepth 20000 in
theorem h_X12_howOf : Cond.code yX12_howOf prog_14_method_64_code 2 (Option.some FieldType.int) ∈ TT := TT_8 11 rfl rfl
set_option maxRecDepth 20000 in
theorem h_X12_image : Cond.code yX12_image prog_14_method_71_code 2 (none : Option FieldType) ∈ TT := TT_8 37 rfl rfl
set_option maxRecDepth 20000 in
theorem h_X12_isIn : Cond.code yX12_isIn prog_14_method_3_code 3 (Option.some FieldType.boolean) ∈ TT := TT_6 227 rfl rfl
set_option maxRecDepth 20000 in
theorem h_X12_isLog : Cond.code yX12_isLog prog_14_method_63_code 4 (Option.some FieldType.boolean) ∈ TT := TT_8 7 rfl rfl
set_option maxRecDepth 20000 in
theorem h_X12_isOver : Cond.code yX12_isOver prog_14_method_35_code 1 (Option.some FieldType.boolean) ∈ TT := TT_7 134 rfl rfl
set_option maxRecDepth 20000 in
theorem h_X12_isPlayer : Cond.code yX12_isPlayer prog_14_method_4_code 1 (Option.some FieldType.boolean) ∈ TT := TT_7 90 rfl rfl
set_option maxRecDepth 20000 in
theorem h_X12_isSign : Cond.code yX12_isSign prog_14_method_9_code 2 (Option.some FieldType.boolean) ∈ TT := TT_7 40 rfl rfl
set_option maxRecDepth 20000 in
theorem h_X12_joins : Cond.code yX12_joins prog_14_method_68_code 6 (none : Option FieldType) ∈ TT := TT_8 27 rfl rfl
set_option maxRecDepth 20000 in
theorem h_X12_letter : Cond.code yX12_letter prog_14_method_7_code 2 (Option.some FieldType.int) ∈ TT := TT_7 3 rfl rfl
set_option maxRecDepth 20000 in
theorem h_X12_lines : Cond.code yX12_lines prog_14_method_14_code 4 (none : Option FieldType) ∈ TT := TT_6 235 rfl rfl
set_option maxRecDepth 20000 in
theorem h_X12_log : Cond.code yX12_log prog_14_method_65_code 4 (Option.some FieldType.int) ∈ TT := TT_8 3 rfl rfl
set_option maxRecDepth 20000 in
theorem h_X12_look : Cond.code yX12_look prog_14_method_25_code 4 (Option.some FieldType.int) ∈ TT := TT_7 83 rfl rfl
set_option maxRecDepth 20000 in
theorem h_X12_mends : Cond.code yX12_mends prog_14_method_69_code 13 (Option.some FieldType.long) ∈ TT := TT_8 15 rfl rfl
set_option maxRecDepth 20000 in
theorem h_X12_number : Cond.code yX12_number prog_14_method_45_code 2 (Option.some FieldType.int) ∈ TT := TT_7 197 rfl rfl
set_option maxRecDepth 20000 in
theorem h_X12_part : Cond.code yX12_part prog_14_method_16_code 2 (Option.some FieldType.int) ∈ TT := TT_7 54 rfl rfl
set_option maxRecDepth 20000 in
theorem h_X12_plainCond : Cond.code yX12_plainCond prog_14_method_18_code 4 (Option.some FieldType.boolean) ∈ TT := TT_7 44 rfl rfl
set_option maxRecDepth 20000 in
theorem h_X12_play : Cond.code yX12_play prog_14_method_70_code 11 (Option.some FieldType.int) ∈ TT := TT_8 32 rfl rfl
set_option maxRecDepth 20000 in
theorem h_X12_plays : Cond.code yX12_plays prog_14_method_26_code 4 (Option.some FieldType.int) ∈ TT := TT_7 87 rfl rfl
set_option maxRecDepth 20000 in
theorem h_X12_plays0 : Cond.code yX12_plays0 prog_14_method_51_code 8 (none : Option FieldType) ∈ TT := TT_7 182 rfl rfl
set_option maxRecDepth 20000 in
theorem h_X12_point : Cond.code yX12_point prog_14_method_38_code 2 (none : Option FieldType) ∈ TT := TT_7 142 rfl rfl
set_option maxRecDepth 20000 in
theorem h_X12_puts : Cond.code yX12_puts prog_14_method_29_code 2 (none : Option FieldType) ∈ TT := TT_7 154 rfl rfl
set_option maxRecDepth 20000 in
theorem h_X12_rallies : Cond.code yX12_rallies prog_14_method_41_code 5 (none : Option FieldType) ∈ TT := TT_7 138 rfl rfl
set_option maxRecDepth 20000 in
theorem h_X12_rally : Cond.code yX12_rally prog_14_method_42_code 4 (Option.some FieldType.int) ∈ TT := TT_7 130 rfl rfl
set_option maxRecDepth 20000 in
theorem h_X12_refuses : Cond.code yX12_refuses prog_14_method_53_code 3 (Option.some FieldType.int) ∈ TT := TT_7 170 rfl rfl
set_option maxRecDepth 20000 in
theorem h_X12_rule : Cond.code yX12_rule prog_14_method_23_code 4 (Option.some FieldType.int) ∈ TT := TT_7 75 rfl rfl
set_option maxRecDepth 20000 in
theorem h_X12_ruleLine : Cond.code yX12_ruleLine prog_14_method_22_code 3 (none : Option FieldType) ∈ TT := TT_7 11 rfl rfl
set_option maxRecDepth 20000 in
theorem h_X12_saves : Cond.code yX12_saves prog_14_method_56_code 10 (Option.some FieldType.int) ∈ TT := TT_7 211 rfl rfl
set_option maxRecDepth 20000 in
theorem h_X12_score : Cond.code yX12_score prog_14_method_31_code 5 (none : Option FieldType) ∈ TT := TT_7 106 rfl rfl
set_option maxRecDepth 20000 in
theorem h_X12_set : Cond.code yX12_set prog_14_method_60_code 9 (Option.some FieldType.int) ∈ TT := TT_7 221 rfl rfl
set_option maxRecDepth 20000 in
theorem h_X12_setOf : Cond.code yX12_setOf prog_14_method_59_code 9 (Option.some FieldType.long) ∈ TT := TT_7 229 rfl rfl
set_option maxRecDepth 20000 in
theorem h_X12_skip : Cond.code yX12_skip prog_14_method_8_code 1 (none : Option FieldType) ∈ TT := TT_6 239 rfl rfl
set_option maxRecDepth 20000 in
theorem h_X12_some : Cond.code yX12_some prog_14_method_21_code 3 (Option.some FieldType.boolean) ∈ TT := TT_7 27 rfl rfl
set_option maxRecDepth 20000 in
theorem h_X12_stands : Cond.code yX12_stands prog_14_method_37_code 2 (Option.some FieldType.int) ∈ TT := TT_7 118 rfl rfl
set_option maxRecDepth 20000 in
theorem h_X12_style : Cond.code yX12_style prog_14_method_30_code 2 (Option.some FieldType.int) ∈ TT := TT_7 94 rfl rfl
set_option maxRecDepth 20000 in
theorem h_X12_styleOf : Cond.code yX12_styleOf prog_14_method_27_code 3 (Option.some FieldType.int) ∈ TT := TT_7 102 rfl rfl
set_option maxRecDepth 20000 in
theorem h_X12_sum : Cond.code yX12_sum prog_14_method_17_code 2 (Option.some FieldType.int) ∈ TT := TT_7 50 rfl rfl
set_option maxRecDepth 20000 in
theorem h_X12_takes : Cond.code yX12_takes prog_14_method_28_code 2 (none : Option FieldType) ∈ TT := TT_7 98 rfl rfl
set_option maxRecDepth 20000 in
theorem h_X12_takesBisque : Cond.code yX12_takesBisque prog_14_method_43_code 3 (none : Option FieldType) ∈ TT := TT_7 162 rfl rfl
set_option maxRecDepth 20000 in
theorem h_X12_thrown : Cond.code yX12_thrown prog_14_method_2_code 1 (Option.some FieldType.int) ∈ TT := TT_6 216 rfl rfl
set_option maxRecDepth 20000 in
theorem h_X12_told : Cond.code yX12_told prog_14_method_36_code 2 (Option.some FieldType.int) ∈ TT := TT_7 122 rfl rfl
set_option maxRecDepth 20000 in
theorem h_X12_unnumber : Cond.code yX12_unnumber prog_14_method_46_code 3 (none : Option FieldType) ∈ TT := TT_7 178 rfl rfl
set_option maxRecDepth 20000 in
theorem h_X12_unwhole : Cond.code yX12_unwhole prog_14_method_67_code 2 (none : Option FieldType) ∈ TT := TT_8 23 rfl rfl
set_option maxRecDepth 20000 in
theorem h_X12_ways : Cond.code yX12_ways prog_14_method_61_code 5 (Option.some FieldType.int) ∈ TT := TT_7 233 rfl rfl
set_option maxRecDepth 20000 in
theorem h_X12_whole : Cond.code yX12_whole prog_14_method_66_code 1 (Option.some FieldType.int) ∈ TT := TT_8 19 rfl rfl
set_option maxRecDepth 20000 in
theorem h_X12_worth : Cond.code yX12_worth prog_14_method_57_code 5 (Option.some FieldType.int) ∈ TT := TT_7 216 rfl rfl
set_option maxRecDepth 20000 in
theorem h_X12_wouldWin : Cond.code yX12_wouldWin prog_14_method_34_code 2 (Option.some FieldType.boolean) ∈ TT := TT_7 126 rfl rfl
set_option maxRecDepth 20000 in
theorem h_X12_wrong : Cond.code yX12_wrong prog_14_method_11_code 2 (none : Option FieldType) ∈ TT := TT_7 7 rfl rfl
set_option maxRecDepth 20000 in
theorem h_J6_compare_7cf53 : Cond.code yJ6_compare_7cf53 prog_23_method_40_code 2 (Option.some FieldType.int) ∈ TT := TT_4 93 rfl rfl
set_option maxRecDepth 20000 in
theorem h_J9_abs_0f7a4 : Cond.code yJ9_abs_0f7a4 prog_24_method_59_code 1 (Option.some FieldType.int) ∈ TT := TT_5 212 rfl rfl
set_option maxRecDepth 20000 in
theorem h_J9_max_7cf53 : Cond.code yJ9_max_7cf53 prog_24_method_65_code 2 (Option.some FieldType.int) ∈ TT := TT_5 109 rfl rfl
set_option maxRecDepth 20000 in
theorem h_J9_min_7cf53 : Cond.code yJ9_min_7cf53 prog_24_method_69_code 2 (Option.some FieldType.int) ∈ TT := TT_2 77 rfl rfl
set_option maxRecDepth 20000 in
theorem h_J0_charAt_5068e : Cond.code yJ0_charAt_5068e prog_26_method_56_code 2 (Option.some FieldType.char) ∈ TT := TT_2 111 rfl rfl
set_option maxRecDepth 20000 in
theorem h_J0_checkIndex_df160 : Cond.code yJ0_checkIndex_df160 prog_26_method_155_code 2 (none : Option FieldType) ∈ TT := TT_2 121 rfl rfl
set_option maxRecDepth 20000 in
theorem h_J0_coder_7d493 : Cond.code yJ0_coder_7d493 prog_26_method_152_code 1 (Option.some FieldType.byte) ∈ TT := TT_2 105 rfl rfl
set_option maxRecDepth 20000 in
theorem h_J0_isLatin1_aae02 : Cond.code yJ0_isLatin1_aae02 prog_26_method_154_code 1 (Option.some FieldType.boolean) ∈ TT := TT_2 115 rfl rfl
set_option maxRecDepth 20000 in
theorem h_J0_length_8abf5 : Cond.code yJ0_length_8abf5 prog_26_method_54_code 1 (Option.some FieldType.int) ∈ TT := TT_2 101 rfl rfl
set_option maxRecDepth 20000 in
theorem h_J1_charAt_3b067 : Cond.code yJ1_charAt_3b067 prog_27_method_2_code 2 (Option.some FieldType.char) ∈ TT := TT_2 118 rfl rfl
set_option maxRecDepth 20000 in
theorem h_J2_charAt_3b067 : Cond.code yJ2_charAt_3b067 prog_28_method_83_code 2 (Option.some FieldType.char) ∈ TT := TT_2 129 rfl rfl
set_option maxRecDepth 20000 in
theorem h_J2_checkIndex_2214a : Cond.code yJ2_checkIndex_2214a prog_28_method_91_code 2 (none : Option FieldType) ∈ TT := TT_2 132 rfl rfl
set_option maxRecDepth 20000 in
theorem h_J2_getChar_3b067 : Cond.code yJ2_getChar_3b067 prog_28_method_5_code 2 (Option.some FieldType.char) ∈ TT := TT_2 139 rfl rfl
set_option maxRecDepth 20000 in
theorem h_J2_length_9d52b : Cond.code yJ2_length_9d52b prog_28_method_6_code 1 (Option.some FieldType.int) ∈ TT := TT_2 135 rfl rfl
set_option maxRecDepth 20000 in
theorem h_J7_copyOf_59c91 : Cond.code yJ7_copyOf_59c91 prog_34_method_123_code 3 (Option.some (FieldType.array FieldType.int)) ∈ TT := TT_3 136 rfl rfl
set_option maxRecDepth 20000 in
theorem h_J7_copyOf_c38d5 : Cond.code yJ7_copyOf_c38d5 prog_34_method_124_code 3 (Option.some (FieldType.array FieldType.long)) ∈ TT := TT_6 58 rfl rfl
set_option maxRecDepth 20000 in
theorem h_J7_fill_53178 : Cond.code yJ7_fill_53178 prog_34_method_103_code 4 (none : Option FieldType) ∈ TT := TT_4 233 rfl rfl
set_option maxRecDepth 20000 in
theorem h_J3_checkIndex_8e157 : Cond.code yJ3_checkIndex_8e157 prog_36_method_11_code 3 (Option.some FieldType.int) ∈ TT := TT_2 126 rfl rfl
theorem ne_X11 : RX11 ≠ "java/lang/invoke/MethodHandle" ∧ RX11 ≠ "java/lang/invoke/VarHandle" := by decide +kernel
theorem ne_X0 : RX0 ≠ "java/lang/invoke/MethodHandle" ∧ RX0 ≠ "java/lang/invoke/VarHandle" := by decide +kernel
theorem ne_X1 : RX1 ≠ "java/lang/invoke/MethodHandle" ∧ RX1 ≠ "java/lang/invoke/VarHandle" := by decide +kernel
theorem ne_X2 : RX2 ≠ "java/lang/invoke/MethodHandle" ∧ RX2 ≠ "java/lang/invoke/VarHandle" := by decide +kernel
theorem ne_X3 : RX3 ≠ "java/lang/invoke/MethodHandle" ∧ RX3 ≠ "java/lang/invoke/VarHandle" := by decide +kernel
theorem ne_X4 : RX4 ≠ "java/lang/invoke/MethodHandle" ∧ RX4 ≠ "java/lang/invoke/VarHandle" := by decide +kernel
theorem ne_X5 : RX5 ≠ "java/lang/invoke/MethodHandle" ∧ RX5 ≠ "java/lang/invoke/VarHandle" := by decide +kernel
theorem ne_X6 : RX6 ≠ "java/lang/invoke/MethodHandle" ∧ RX6 ≠ "java/lang/invoke/VarHandle" := by decide +kernel
theorem ne_X7 : RX7 ≠ "java/lang/invoke/MethodHandle" ∧ RX7 ≠ "java/lang/invoke/VarHandle" := by decide +kernel
theorem ne_X8 : RX8 ≠ "java/lang/invoke/MethodHandle" ∧ RX8 ≠ "java/lang/invoke/VarHandle" := by decide +kernel
theorem ne_X9 : RX9 ≠ "java/lang/invoke/MethodHandle" ∧ RX9 ≠ "java/lang/invoke/VarHandle" := by decide +kernel
theorem ne_X10 : RX10 ≠ "java/lang/invoke/MethodHandle" ∧ RX10 ≠ "java/lang/invoke/VarHandle" := by decide +kernel
theorem ne_L : RL ≠ "java/lang/invoke/MethodHandle" ∧ RL ≠ "java/lang/invoke/VarHandle" := by decide +kernel
theorem ne_X12 : RX12 ≠ "java/lang/invoke/MethodHandle" ∧ RX12 ≠ "java/lang/invoke/VarHandle" := by decide +kernel
theorem ne_J6 : RJ6 ≠ "java/lang/invoke/MethodHandle" ∧ RJ6 ≠ "java/lang/invoke/VarHandle" := by decide +kernel
theorem ne_J9 : RJ9 ≠ "java/lang/invoke/MethodHandle" ∧ RJ9 ≠ "java/lang/invoke/VarHandle" := by decide +kernel
theorem ne_J0 : RJ0 ≠ "java/lang/invoke/MethodHandle" ∧ RJ0 ≠ "java/lang/invoke/VarHandle" := by decide +kernel
theorem ne_J1 : RJ1 ≠ "java/lang/invoke/MethodHandle" ∧ RJ1 ≠ "java/lang/invoke/VarHandle" := by decide +kernel
theorem ne_J2 : RJ2 ≠ "java/lang/invoke/MethodHandle" ∧ RJ2 ≠ "java/lang/invoke/VarHandle" := by decide +kernel
theorem ne_J7 : RJ7 ≠ "java/lang/invoke/MethodHandle" ∧ RJ7 ≠ "java/lang/invoke/VarHandle" := by decide +kernel
theorem ne_J3 : RJ3 ≠ "java/lang/invoke/MethodHandle" ∧ RJ3 ≠ "java/lang/invoke/VarHandle" := by decide +kernel
theorem pd_0 : (parseMethodDescriptor "()B").map (fun d => d.parameters.length) = some 0 := by decide +kernel
theorem pd_1 : (parseMethodDescriptor "()I").map (fun d => d.parameters.length) = some 0 := by decide +kernel
theorem pd_2 : (parseMethodDescriptor "()V").map (fun d => d.parameters.length) = some 0 := by decide +kernel
theorem pd_3 : (parseMethodDescriptor "()Z").map (fun d => d.parameters.length) = some 0 := by decide +kernel
theorem pd_4 : (parseMethodDescriptor "()[I").map (fun d => d.parameters.length) = some 0 := by decide +kernel
theorem pd_5 : (parseMethodDescriptor "(I)C").map (fun d => d.parameters.length) = some 1 := by decide +kernel
theorem pd_6 : (parseMethodDescriptor "(I)I").map (fun d => d.parameters.length) = some 1 := by decide +kernel
theorem pd_7 : (parseMethodDescriptor "(I)LChaseCourt$Score;").map (fun d => d.parameters.length) = some 1 := by decide +kernel
theorem pd_8 : (parseMethodDescriptor "(I)V").map (fun d => d.parameters.length) = some 1 := by decide +kernel
theorem pd_9 : (parseMethodDescriptor "(I)Z").map (fun d => d.parameters.length) = some 1 := by decide +kernel
theorem pd_10 : (parseMethodDescriptor "(II)I").map (fun d => d.parameters.length) = some 2 := by decide +kernel
theorem pd_11 : (parseMethodDescriptor "(II)LChaseCourt$Odds;").map (fun d => d.parameters.length) = some 2 := by decide +kernel
theorem pd_12 : (parseMethodDescriptor "(II)V").map (fun d => d.parameters.length) = some 2 := by decide +kernel
theorem pd_13 : (parseMethodDescriptor "(II)Z").map (fun d => d.parameters.length) = some 2 := by decide +kernel
theorem pd_14 : (parseMethodDescriptor "(III)I").map (fun d => d.parameters.length) = some 3 := by decide +kernel
theorem pd_15 : (parseMethodDescriptor "(III)V").map (fun d => d.parameters.length) = some 3 := by decide +kernel
theorem pd_16 : (parseMethodDescriptor "(III)Z").map (fun d => d.parameters.length) = some 3 := by decide +kernel
theorem pd_17 : (parseMethodDescriptor "(IIII)I").map (fun d => d.parameters.length) = some 4 := by decide +kernel
theorem pd_18 : (parseMethodDescriptor "(IIII)J").map (fun d => d.parameters.length) = some 4 := by decide +kernel
theorem pd_19 : (parseMethodDescriptor "(IIII)V").map (fun d => d.parameters.length) = some 4 := by decide +kernel
theorem pd_20 : (parseMethodDescriptor "(IIIII)I").map (fun d => d.parameters.length) = some 5 := by decide +kernel
theorem pd_21 : (parseMethodDescriptor "(IIIII[I)I").map (fun d => d.parameters.length) = some 6 := by decide +kernel
theorem pd_22 : (parseMethodDescriptor "(IIIIZ)J").map (fun d => d.parameters.length) = some 5 := by decide +kernel
theorem pd_23 : (parseMethodDescriptor "(IIIJ)V").map (fun d => d.parameters.length) = some 4 := by decide +kernel
theorem pd_24 : (parseMethodDescriptor "(IIILChaseCourt$Score;)Z").map (fun d => d.parameters.length) = some 4 := by decide +kernel
theorem pd_25 : (parseMethodDescriptor "(III[I)I").map (fun d => d.parameters.length) = some 4 := by decide +kernel
theorem pd_26 : (parseMethodDescriptor "(III[I[I)V").map (fun d => d.parameters.length) = some 5 := by decide +kernel
theorem pd_27 : (parseMethodDescriptor "(IILChaseCourt$Laws;)I").map (fun d => d.parameters.length) = some 3 := by decide +kernel
theorem pd_28 : (parseMethodDescriptor "(IILChaseCourt$Score;)I").map (fun d => d.parameters.length) = some 3 := by decide +kernel
theorem pd_29 : (parseMethodDescriptor "(IILjava/lang/String;)Z").map (fun d => d.parameters.length) = some 3 := by decide +kernel
theorem pd_30 : (parseMethodDescriptor "(IILjava/util/function/BiFunction;)I").map (fun d => d.parameters.length) = some 3 := by decide +kernel
theorem pd_31 : (parseMethodDescriptor "(IIZ)I").map (fun d => d.parameters.length) = some 3 := by decide +kernel
theorem pd_32 : (parseMethodDescriptor "(II[I)I").map (fun d => d.parameters.length) = some 3 := by decide +kernel
theorem pd_33 : (parseMethodDescriptor "(IJ)V").map (fun d => d.parameters.length) = some 2 := by decide +kernel
theorem pd_34 : (parseMethodDescriptor "(ILChaseCourt$Laws;)Z").map (fun d => d.parameters.length) = some 2 := by decide +kernel
theorem pd_35 : (parseMethodDescriptor "(ILChaseCourt$Score;)I").map (fun d => d.parameters.length) = some 2 := by decide +kernel
theorem pd_36 : (parseMethodDescriptor "(ILChaseCourt$Stand;)I").map (fun d => d.parameters.length) = some 2 := by decide +kernel
theorem pd_37 : (parseMethodDescriptor "(I[B)V").map (fun d => d.parameters.length) = some 2 := by decide +kernel
theorem pd_38 : (parseMethodDescriptor "(I[I)I").map (fun d => d.parameters.length) = some 2 := by decide +kernel
theorem pd_39 : (parseMethodDescriptor "(LChaseCourt$Laws;)V").map (fun d => d.parameters.length) = some 1 := by decide +kernel
theorem pd_40 : (parseMethodDescriptor "(LChaseCourt$Laws;)Z").map (fun d => d.parameters.length) = some 1 := by decide +kernel
theorem pd_41 : (parseMethodDescriptor "(LChaseCourt$Rules;)V").map (fun d => d.parameters.length) = some 1 := by decide +kernel
theorem pd_42 : (parseMethodDescriptor "(LChaseCourt$Scanner;)I").map (fun d => d.parameters.length) = some 1 := by decide +kernel
theorem pd_43 : (parseMethodDescriptor "(LChaseCourt$Scanner;)Z").map (fun d => d.parameters.length) = some 1 := by decide +kernel
theorem pd_44 : (parseMethodDescriptor "(LChaseCourt$Score;)I").map (fun d => d.parameters.length) = some 1 := by decide +kernel
theorem pd_45 : (parseMethodDescriptor "(LChaseCourt$Score;)V").map (fun d => d.parameters.length) = some 1 := by decide +kernel
theorem pd_46 : (parseMethodDescriptor "(LChaseCourt$Stand;)V").map (fun d => d.parameters.length) = some 1 := by decide +kernel
theorem pd_47 : (parseMethodDescriptor "(LChaseCourt$Stand;II)V").map (fun d => d.parameters.length) = some 3 := by decide +kernel
theorem pd_48 : (parseMethodDescriptor "(LChaseCourt;II)I").map (fun d => d.parameters.length) = some 3 := by decide +kernel
theorem pd_49 : (parseMethodDescriptor "(LChaseCourt;III)I").map (fun d => d.parameters.length) = some 4 := by decide +kernel
theorem pd_50 : (parseMethodDescriptor "(LChaseCourt;IIIIZ[J)I").map (fun d => d.parameters.length) = some 7 := by decide +kernel
theorem pd_51 : (parseMethodDescriptor "(LChaseCourt;IIII[J)I").map (fun d => d.parameters.length) = some 6 := by decide +kernel
theorem pd_52 : (parseMethodDescriptor "(LChaseCourt;III[J)I").map (fun d => d.parameters.length) = some 5 := by decide +kernel
theorem pd_53 : (parseMethodDescriptor "(LChaseCourt;IIZ[J)I").map (fun d => d.parameters.length) = some 5 := by decide +kernel
theorem pd_54 : (parseMethodDescriptor "(LChaseCourt;II[J)I").map (fun d => d.parameters.length) = some 4 := by decide +kernel
theorem pd_55 : (parseMethodDescriptor "(LChaseCourt;I[J)I").map (fun d => d.parameters.length) = some 3 := by decide +kernel
theorem pd_56 : (parseMethodDescriptor "(LChaseCourt;[J)I").map (fun d => d.parameters.length) = some 2 := by decide +kernel
theorem pd_57 : (parseMethodDescriptor "(Ljava/lang/String;)Z").map (fun d => d.parameters.length) = some 1 := by decide +kernel
theorem pd_58 : (parseMethodDescriptor "(Z)V").map (fun d => d.parameters.length) = some 1 := by decide +kernel
theorem pd_59 : (parseMethodDescriptor "([B)I").map (fun d => d.parameters.length) = some 1 := by decide +kernel
theorem pd_60 : (parseMethodDescriptor "([BI)C").map (fun d => d.parameters.length) = some 2 := by decide +kernel
theorem pd_61 : (parseMethodDescriptor "([BI)V").map (fun d => d.parameters.length) = some 2 := by decide +kernel
theorem pd_62 : (parseMethodDescriptor "([I)I").map (fun d => d.parameters.length) = some 1 := by decide +kernel
theorem pd_63 : (parseMethodDescriptor "([I)V").map (fun d => d.parameters.length) = some 1 := by decide +kernel
theorem pd_64 : (parseMethodDescriptor "([II)V").map (fun d => d.parameters.length) = some 2 := by decide +kernel
theorem pd_65 : (parseMethodDescriptor "([II)[I").map (fun d => d.parameters.length) = some 2 := by decide +kernel
theorem pd_66 : (parseMethodDescriptor "([IIII)I").map (fun d => d.parameters.length) = some 4 := by decide +kernel
theorem pd_67 : (parseMethodDescriptor "([I[II)V").map (fun d => d.parameters.length) = some 3 := by decide +kernel
theorem pd_68 : (parseMethodDescriptor "([JI)[J").map (fun d => d.parameters.length) = some 2 := by decide +kernel
set_option maxRecDepth 20000 in
theorem m_X11_1 : Cond.methodLink RX11 1 Lib.objectInit ∈ TT := TT_1 35 rfl rfl
set_option maxRecDepth 20000 in
theorem m_X11_15 : IK RX11 15 yX7_init (Cond.code yX7_init prog_9_method_1_code 1 (none : Option FieldType)) 1 0 := ⟨_, rfl, h_X7_init, Or.inr ⟨"ChaseCourt", List.mem_of_getElem? (i := 0) rfl⟩, TT_1 41 rfl rfl, TT_1 2 rfl rfl, rfl, ne_X7, pd_2, by decide⟩
set_option maxRecDepth 20000 in
theorem m_X11_22 : IK RX11 22 yX0_init (Cond.code yX0_init prog_2_method_1_code 2 (none : Option FieldType)) 2 0 := ⟨_, rfl, h_X0_init, Or.inl (TT_1 70 rfl rfl), TT_1 71 rfl rfl, TT_1 3 rfl rfl, rfl, ne_X0, pd_2, by decide⟩
set_option maxRecDepth 20000 in
theorem m_X11_29 : IK RX11 29 yX10_init (Cond.code yX10_init prog_12_method_1_code 1 (none : Option FieldType)) 1 0 := ⟨_, rfl, h_X10_init, Or.inr ⟨"ChaseCourt", List.mem_of_getElem? (i := 1) rfl⟩, TT_1 102 rfl rfl, TT_1 4 rfl rfl, rfl, ne_X10, pd_2, by decide⟩
set_option maxRecDepth 20000 in
theorem m_X11_36 : IK RX11 36 yX8_init (Cond.code yX8_init prog_10_method_1_code 1 (none : Option FieldType)) 1 0 := ⟨_, rfl, h_X8_init, Or.inr ⟨"ChaseCourt", List.mem_of_getElem? (i := 4) rfl⟩, TT_1 130 rfl rfl, TT_1 6 rfl rfl, rfl, ne_X8, pd_2, by decide⟩
set_option maxRecDepth 20000 in
theorem m_X11_48 : VK RX11 48 yX11_append (Cond.code yX11_append prog_1_method_3_code 3 (none : Option FieldType)) 3 RX11 1 := ⟨_, _, rfl, h_X11_append, TT_2 15 rfl rfl, TT_2 17 rfl rfl, TT_priv 0 rfl rfl, TT_1 1 rfl rfl, ne_X11, pd_8, by decide⟩
set_option maxRecDepth 20000 in
theorem m_X11_52 : VK RX11 52 yX11_useUp (Cond.code yX11_useUp prog_1_method_37_code 2 (Option.some FieldType.int)) 2 RX11 0 := ⟨_, _, rfl, h_X11_useUp, TT_2 67 rfl rfl, TT_2 69 rfl rfl, TT_priv 1 rfl rfl, TT_1 1 rfl rfl, ne_X11, pd_1, by decide⟩
set_option maxRecDepth 20000 in
theorem m_X11_56 : VK RX11 56 yX7_scan (Cond.code yX7_scan prog_9_method_2_code 5 (none : Option FieldType)) 5 RX7 2 := ⟨_, _, rfl, h_X7_scan, TT_2 71 rfl rfl, TT_2 72 rfl rfl, TT_2 73 rfl rfl, TT_1 2 rfl rfl, ne_X7, pd_61, by decide⟩
set_option maxRecDepth 20000 in
theorem m_X11_63 : VK RX11 63 yX0_takeFrom (Cond.code yX0_takeFrom prog_2_method_2_code 2 (none : Option FieldType)) 2 RX0 1 := ⟨_, _, rfl, h_X0_takeFrom, TT_2 174 rfl rfl, TT_2 36 rfl rfl, TT_2 37 rfl rfl, TT_1 3 rfl rfl, ne_X0, pd_39, by decide⟩
set_option maxRecDepth 20000 in
theorem m_X11_67 : VK RX11 67 yX0_readText (Cond.code yX0_readText prog_2_method_3_code 3 (Option.some FieldType.int)) 3 RX0 1 := ⟨_, _, rfl, h_X0_readText, TT_2 175 rfl rfl, TT_2 176 rfl rfl, TT_2 177 rfl rfl, TT_1 3 rfl rfl, ne_X0, pd_42, by decide⟩
set_option maxRecDepth 20000 in
theorem m_X11_92 : IK RX11 92 yX5_init (Cond.code yX5_init prog_7_method_1_code 1 (none : Option FieldType)) 1 0 := ⟨_, rfl, h_X5_init, Or.inr ⟨"ChaseCourt", List.mem_of_getElem? (i := 5) rfl⟩, TT_3 65 rfl rfl, TT_1 19 rfl rfl, rfl, ne_X5, pd_2, by decide⟩
set_option maxRecDepth 20000 in
theorem m_X11_93 : VK RX11 93 yX5_read (Cond.code yX5_read prog_7_method_2_code 3 (Option.some FieldType.int)) 3 RX5 1 := ⟨_, _, rfl, h_X5_read, TT_3 81 rfl rfl, TT_3 82 rfl rfl, TT_3 83 rfl rfl, TT_1 19 rfl rfl, ne_X5, pd_42, by decide⟩
set_option maxRecDepth 20000 in
theorem m_X11_109 : VK RX11 109 yX5_written (Cond.code yX5_written prog_7_method_3_code 1 (Option.some (FieldType.array FieldType.int))) 1 RX5 0 := ⟨_, _, rfl, h_X5_written, TT_3 130 rfl rfl, TT_3 131 rfl rfl, TT_3 132 rfl rfl, TT_1 19 rfl rfl, ne_X5, pd_4, by decide⟩
set_option maxRecDepth 20000 in
theorem m_X11_113 : VK RX11 113 yX6_add (Cond.code yX6_add prog_8_method_3_code 2 (Option.some FieldType.int)) 2 RX6 1 := ⟨_, _, rfl, h_X6_add, TT_3 146 rfl rfl, TT_3 147 rfl rfl, TT_3 148 rfl rfl, TT_1 5 rfl rfl, ne_X6, pd_62, by decide⟩
set_option maxRecDepth 20000 in
theorem m_X11_122 : SK RX11 122 yX11_needWhat (Cond.code yX11_needWhat prog_1_method_33_code 2 (none : Option FieldType)) 2 2 := ⟨_, _, rfl, h_X11_needWhat, TT_3 187 rfl rfl, TT_3 188 rfl rfl, TT_1 1 rfl rfl, ne_X11, pd_12, by decide⟩
set_option maxRecDepth 20000 in
theorem m_X11_130 : SK RX11 130 yX11_needPlayer (Cond.code yX11_needPlayer prog_1_method_30_code 1 (none : Option FieldType)) 1 1 := ⟨_, _, rfl, h_X11_needPlayer, TT_3 213 rfl rfl, TT_3 214 rfl rfl, TT_1 1 rfl rfl, ne_X11, pd_8, by decide⟩
set_option maxRecDepth 20000 in
theorem m_X11_141 : VK RX11 141 yX6_styleOf (Cond.code yX6_styleOf prog_8_method_4_code 4 (Option.some FieldType.int)) 4 RX6 2 := ⟨_, _, rfl, h_X6_styleOf, TT_3 225 rfl rfl, TT_3 226 rfl rfl, TT_3 227 rfl rfl, TT_1 5 rfl rfl, ne_X6, pd_35, by decide⟩
set_option maxRecDepth 20000 in
theorem m_X11_147 : VK RX11 147 yX8_restart (Cond.code yX8_restart prog_10_method_3_code 4 (none : Option FieldType)) 4 RX8 3 := ⟨_, _, rfl, h_X8_restart, TT_4 15 rfl rfl, TT_4 16 rfl rfl, TT_4 17 rfl rfl, TT_1 6 rfl rfl, ne_X8, pd_15, by decide⟩
set_option maxRecDepth 20000 in
theorem m_X11_167 : VK RX11 167 yX8_tell (Cond.code yX8_tell prog_10_method_6_code 2 (Option.some FieldType.int)) 2 RX8 1 := ⟨_, _, rfl, h_X8_tell, TT_4 42 rfl rfl, TT_4 43 rfl rfl, TT_4 44 rfl rfl, TT_1 6 rfl rfl, ne_X8, pd_6, by decide⟩
set_option maxRecDepth 20000 in
theorem m_X11_171 : SK RX11 171 yX11_needLine (Cond.code yX11_needLine prog_1_method_31_code 1 (none : Option FieldType)) 1 1 := ⟨_, _, rfl, h_X11_needLine, TT_4 58 rfl rfl, TT_4 59 rfl rfl, TT_1 1 rfl rfl, ne_X11, pd_8, by decide⟩
set_option maxRecDepth 20000 in
theorem m_X11_176 : VK RX11 176 yX11_needGoingOn (Cond.code yX11_needGoingOn prog_1_method_34_code 2 (none : Option FieldType)) 2 RX11 1 := ⟨_, _, rfl, h_X11_needGoingOn, TT_4 63 rfl rfl, TT_4 65 rfl rfl, TT_priv 21 rfl rfl, TT_1 1 rfl rfl, ne_X11, pd_45, by decide⟩
set_option maxRecDepth 20000 in
theorem m_X11_180 : VK RX11 180 yX8_strike (Cond.code yX8_strike prog_10_method_7_code 6 (Option.some FieldType.int)) 6 RX8 3 := ⟨_, _, rfl, h_X8_strike, TT_4 87 rfl rfl, TT_4 88 rfl rfl, TT_4 89 rfl rfl, TT_1 6 rfl rfl, ne_X8, pd_27, by decide⟩
set_option maxRecDepth 20000 in
theorem m_X11_184 : VK RX11 184 yX8_takeBisque (Cond.code yX8_takeBisque prog_10_method_9_code 4 (Option.some FieldType.boolean)) 4 RX8 2 := ⟨_, _, rfl, h_X8_takeBisque, TT_4 126 rfl rfl, TT_4 127 rfl rfl, TT_4 128 rfl rfl, TT_1 6 rfl rfl, ne_X8, pd_34, by decide⟩
set_option maxRecDepth 20000 in
theorem m_X11_188 : SK RX11 188 yX11_needRallies (Cond.code yX11_needRallies prog_1_method_32_code 1 (none : Option FieldType)) 1 1 := ⟨_, _, rfl, h_X11_needRallies, TT_4 137 rfl rfl, TT_4 138 rfl rfl, TT_1 1 rfl rfl, ne_X11, pd_8, by decide⟩
set_option maxRecDepth 20000 in
theorem m_X11_191 : VK RX11 191 yX11_freshOdds (Cond.code yX11_freshOdds prog_1_method_40_code 3 (Option.some (FieldType.object "ChaseCourt$Odds"))) 3 RX11 2 := ⟨_, _, rfl, h_X11_freshOdds, TT_4 141 rfl rfl, TT_4 143 rfl rfl, TT_priv 26 rfl rfl, TT_1 1 rfl rfl, ne_X11, pd_11, by decide⟩
set_option maxRecDepth 20000 in
theorem m_X11_195 : VK RX11 195 yX2_placeOf (Cond.code yX2_placeOf prog_4_method_3_code 2 (Option.some FieldType.int)) 2 RX2 1 := ⟨_, _, rfl, h_X2_placeOf, TT_4 235 rfl rfl, TT_4 236 rfl rfl, TT_4 237 rfl rfl, TT_1 26 rfl rfl, ne_X2, pd_44, by decide⟩
set_option maxRecDepth 20000 in
theorem m_X11_201 : VK RX11 201 yX2_spreadAll (Cond.code yX2_spreadAll prog_4_method_4_code 6 (none : Option FieldType)) 6 RX2 1 := ⟨_, _, rfl, h_X2_spreadAll, TT_5 17 rfl rfl, TT_5 18 rfl rfl, TT_5 19 rfl rfl, TT_1 26 rfl rfl, ne_X2, pd_8, by decide⟩
set_option maxRecDepth 20000 in
theorem m_X11_204 : SK RX11 204 yX11_waysOf (Cond.code yX11_waysOf prog_1_method_38_code 1 (Option.some FieldType.int)) 1 1 := ⟨_, _, rfl, h_X11_waysOf, TT_5 78 rfl rfl, TT_5 79 rfl rfl, TT_1 1 rfl rfl, ne_X11, pd_6, by decide⟩
set_option maxRecDepth 20000 in
theorem m_X11_207 : VK RX11 207 yX2_weighAll (Cond.code yX2_weighAll prog_4_method_14_code 5 (none : Option FieldType)) 5 RX2 2 := ⟨_, _, rfl, h_X2_weighAll, TT_5 81 rfl rfl, TT_5 82 rfl rfl, TT_5 83 rfl rfl, TT_1 26 rfl rfl, ne_X2, pd_12, by decide⟩
set_option maxRecDepth 20000 in
theorem m_X11_210 : VK RX11 210 yX2_valueAt (Cond.code yX2_valueAt prog_4_method_19_code 2 (Option.some FieldType.int)) 2 RX2 1 := ⟨_, _, rfl, h_X2_valueAt, TT_5 110 rfl rfl, TT_5 111 rfl rfl, TT_5 112 rfl rfl, TT_1 26 rfl rfl, ne_X2, pd_6, by decide⟩
set_option maxRecDepth 20000 in
theorem m_X11_213 : VK RX11 213 yX2_choiceAt (Cond.code yX2_choiceAt prog_4_method_22_code 3 (Option.some FieldType.int)) 3 RX2 1 := ⟨_, _, rfl, h_X2_choiceAt, TT_5 121 rfl rfl, TT_5 122 rfl rfl, TT_5 123 rfl rfl, TT_1 26 rfl rfl, ne_X2, pd_6, by decide⟩
set_option maxRecDepth 20000 in
theorem m_X11_216 : VK RX11 216 yX2_takesAt (Cond.code yX2_takesAt prog_4_method_21_code 2 (Option.some FieldType.boolean)) 2 RX2 1 := ⟨_, _, rfl, h_X2_takesAt, TT_5 132 rfl rfl, TT_5 133 rfl rfl, TT_5 134 rfl rfl, TT_1 26 rfl rfl, ne_X2, pd_9, by decide⟩
set_option maxRecDepth 20000 in
theorem m_X11_220 : VK RX11 220 yX2_savedAt (Cond.code yX2_savedAt prog_4_method_20_code 2 (Option.some FieldType.int)) 2 RX2 1 := ⟨_, _, rfl, h_X2_savedAt, TT_5 136 rfl rfl, TT_5 137 rfl rfl, TT_5 138 rfl rfl, TT_1 26 rfl rfl, ne_X2, pd_6, by decide⟩
set_option maxRecDepth 20000 in
theorem m_X11_228 : VK RX11 228 yX8_takeFrom (Cond.code yX8_takeFrom prog_10_method_2_code 2 (none : Option FieldType)) 2 RX8 1 := ⟨_, _, rfl, h_X8_takeFrom, TT_5 148 rfl rfl, TT_2 47 rfl rfl, TT_2 48 rfl rfl, TT_1 6 rfl rfl, ne_X8, pd_45, by decide⟩
set_option maxRecDepth 20000 in
theorem m_X11_230 : VK RX11 230 yX11_newGame (Cond.code yX11_newGame prog_1_method_39_code 2 (Option.some (FieldType.object "ChaseCourt$Score"))) 2 RX11 1 := ⟨_, _, rfl, h_X11_newGame, TT_5 156 rfl rfl, TT_5 158 rfl rfl, TT_priv 42 rfl rfl, TT_1 1 rfl rfl, ne_X11, pd_7, by decide⟩
set_option maxRecDepth 20000 in
theorem m_X11_236 : IK RX11 236 yX9_init (Cond.code yX9_init prog_11_method_1_code 1 (none : Option FieldType)) 1 0 := ⟨_, rfl, h_X9_init, Or.inr ⟨"ChaseCourt", List.mem_of_getElem? (i := 9) rfl⟩, TT_5 163 rfl rfl, TT_1 28 rfl rfl, rfl, ne_X9, pd_2, by decide⟩
set_option maxRecDepth 20000 in
theorem m_X11_243 : VK RX11 243 yX9_chanceOf (Cond.code yX9_chanceOf prog_11_method_2_code 9 (Option.some FieldType.int)) 9 RX9 2 := ⟨_, _, rfl, h_X9_chanceOf, TT_5 178 rfl rfl, TT_5 179 rfl rfl, TT_5 180 rfl rfl, TT_1 28 rfl rfl, ne_X9, pd_36, by decide⟩
set_option maxRecDepth 20000 in
theorem m_X11_253 : SK RX11 253 yJ9_max_7cf53 (Cond.code yJ9_max_7cf53 prog_24_method_65_code 2 (Option.some FieldType.int)) 2 2 := ⟨_, _, rfl, h_J9_max_7cf53, TT_5 207 rfl rfl, TT_5 108 rfl rfl, TT_1 8 rfl rfl, ne_J9, pd_10, by decide⟩
set_option maxRecDepth 20000 in
theorem m_X11_259 : SK RX11 259 yJ9_min_7cf53 (Cond.code yJ9_min_7cf53 prog_24_method_69_code 2 (Option.some FieldType.int)) 2 2 := ⟨_, _, rfl, h_J9_min_7cf53, TT_5 208 rfl rfl, TT_2 76 rfl rfl, TT_1 8 rfl rfl, ne_J9, pd_10, by decide⟩
set_option maxRecDepth 20000 in
theorem m_X11_263 : SK RX11 263 yJ9_abs_0f7a4 (Cond.code yJ9_abs_0f7a4 prog_24_method_59_code 1 (Option.some FieldType.int)) 1 1 := ⟨_, _, rfl, h_J9_abs_0f7a4, TT_5 210 rfl rfl, TT_5 211 rfl rfl, TT_1 8 rfl rfl, ne_J9, pd_6, by decide⟩
set_option maxRecDepth 20000 in
theorem m_X11_266 : VK RX11 266 yX11_needLog (Cond.code yX11_needLog prog_1_method_35_code 6 (none : Option FieldType)) 6 RX11 1 := ⟨_, _, rfl, h_X11_needLog, TT_5 220 rfl rfl, TT_5 222 rfl rfl, TT_priv 44 rfl rfl, TT_1 1 rfl rfl, ne_X11, pd_8, by decide⟩
set_option maxRecDepth 20000 in
theorem m_X11_269 : SK RX11 269 yX11_howOf (Cond.code yX11_howOf prog_1_method_36_code 1 (Option.some FieldType.int)) 1 1 := ⟨_, _, rfl, h_X11_howOf, TT_5 224 rfl rfl, TT_5 225 rfl rfl, TT_1 1 rfl rfl, ne_X11, pd_6, by decide⟩
set_option maxRecDepth 20000 in
theorem m_X11_278 : IK RX11 278 yX1_init (Cond.code yX1_init prog_3_method_1_code 1 (none : Option FieldType)) 1 0 := ⟨_, rfl, h_X1_init, Or.inr ⟨"ChaseCourt", List.mem_of_getElem? (i := 10) rfl⟩, TT_5 238 rfl rfl, TT_1 29 rfl rfl, rfl, ne_X1, pd_2, by decide⟩
set_option maxRecDepth 20000 in
theorem m_X11_279 : VK RX11 279 yX1_open (Cond.code yX1_open prog_3_method_2_code 2 (none : Option FieldType)) 2 RX1 1 := ⟨_, _, rfl, h_X1_open, TT_6 42 rfl rfl, TT_6 43 rfl rfl, TT_6 44 rfl rfl, TT_1 29 rfl rfl, ne_X1, pd_46, by decide⟩
set_option maxRecDepth 20000 in
theorem m_X11_283 : VK RX11 283 yX1_step (Cond.code yX1_step prog_3_method_3_code 4 (none : Option FieldType)) 4 RX1 2 := ⟨_, _, rfl, h_X1_step, TT_6 68 rfl rfl, TT_6 69 rfl rfl, TT_6 70 rfl rfl, TT_1 29 rfl rfl, ne_X1, pd_12, by decide⟩
set_option maxRecDepth 20000 in
theorem m_X11_286 : VK RX11 286 yX1_close (Cond.code yX1_close prog_3_method_8_code 7 (none : Option FieldType)) 7 RX1 4 := ⟨_, _, rfl, h_X1_close, TT_6 87 rfl rfl, TT_6 88 rfl rfl, TT_6 89 rfl rfl, TT_1 29 rfl rfl, ne_X1, pd_19, by decide⟩
set_option maxRecDepth 20000 in
theorem m_X11_298 : VK RX11 298 yX8_isOver (Cond.code yX8_isOver prog_10_method_4_code 2 (Option.some FieldType.boolean)) 2 RX8 1 := ⟨_, _, rfl, h_X8_isOver, TT_4 67 rfl rfl, TT_4 68 rfl rfl, TT_4 69 rfl rfl, TT_1 6 rfl rfl, ne_X8, pd_40, by decide⟩
set_option maxRecDepth 20000 in
theorem m_X11_303 : VK RX11 303 yX10_pairOf (Cond.code yX10_pairOf prog_12_method_3_code 2 (Option.some FieldType.int)) 2 RX10 1 := ⟨_, _, rfl, h_X10_pairOf, TT_6 104 rfl rfl, TT_5 53 rfl rfl, TT_5 54 rfl rfl, TT_1 4 rfl rfl, ne_X10, pd_44, by decide⟩
set_option maxRecDepth 20000 in
theorem m_X11_306 : VK RX11 306 yX0_drawOutcome (Cond.code yX0_drawOutcome prog_2_method_9_code 5 (Option.some FieldType.int)) 5 RX0 2 := ⟨_, _, rfl, h_X0_drawOutcome, TT_6 105 rfl rfl, TT_6 106 rfl rfl, TT_6 107 rfl rfl, TT_1 3 rfl rfl, ne_X0, pd_10, by decide⟩
set_option maxRecDepth 20000 in
theorem m_X11_312 : VK RX11 312 yX10_takeFrom (Cond.code yX10_takeFrom prog_12_method_2_code 2 (none : Option FieldType)) 2 RX10 1 := ⟨_, _, rfl, h_X10_takeFrom, TT_2 31 rfl rfl, TT_2 32 rfl rfl, TT_2 33 rfl rfl, TT_1 4 rfl rfl, ne_X10, pd_46, by decide⟩
set_option maxRecDepth 20000 in
theorem m_X11_345 : IK RX11 345 yX2_init (Cond.code yX2_init prog_4_method_1_code 1 (none : Option FieldType)) 1 0 := ⟨_, rfl, h_X2_init, Or.inr ⟨"ChaseCourt", List.mem_of_getElem? (i := 6) rfl⟩, TT_4 148 rfl rfl, TT_1 26 rfl rfl, rfl, ne_X2, pd_2, by decide⟩
set_option maxRecDepth 20000 in
theorem m_X11_346 : VK RX11 346 yX2_open (Cond.code yX2_open prog_4_method_2_code 4 (none : Option FieldType)) 4 RX2 3 := ⟨_, _, rfl, h_X2_open, TT_4 223 rfl rfl, TT_4 224 rfl rfl, TT_4 225 rfl rfl, TT_1 26 rfl rfl, ne_X2, pd_47, by decide⟩
set_option maxRecDepth 20000 in
theorem m_X0_3 : Cond.methodLink RX0 3 Lib.objectInit ∈ TT := TT_1 73 rfl rfl
set_option maxRecDepth 20000 in
theorem m_X0_34 : VK RX0 34 yX7_thing (Cond.code yX7_thing prog_9_method_11_code 1 (Option.some FieldType.int)) 1 RX7 0 := ⟨_, _, rfl, h_X7_thing, TT_2 179 rfl rfl, TT_2 180 rfl rfl, TT_2 181 rfl rfl, TT_1 2 rfl rfl, ne_X7, pd_1, by decide⟩
set_option maxRecDepth 20000 in
theorem m_X0_40 : VK RX0 40 yX0_readLine (Cond.code yX0_readLine prog_2_method_4_code 2 (Option.some FieldType.boolean)) 2 RX0 1 := ⟨_, _, rfl, h_X0_readLine, TT_2 183 rfl rfl, TT_2 185 rfl rfl, TT_priv 8 rfl rfl, TT_1 3 rfl rfl, ne_X0, pd_43, by decide⟩
set_option maxRecDepth 20000 in
theorem m_X0_44 : VK RX0 44 yX7_place (Cond.code yX7_place prog_9_method_12_code 1 (Option.some FieldType.int)) 1 RX7 0 := ⟨_, _, rfl, h_X7_place, TT_2 202 rfl rfl, TT_2 203 rfl rfl, TT_2 204 rfl rfl, TT_1 2 rfl rfl, ne_X7, pd_1, by decide⟩
set_option maxRecDepth 20000 in
theorem m_X0_47 : VK RX0 47 yX0_addUp (Cond.code yX0_addUp prog_2_method_7_code 4 (Option.some FieldType.boolean)) 4 RX0 0 := ⟨_, _, rfl, h_X0_addUp, TT_2 206 rfl rfl, TT_2 208 rfl rfl, TT_priv 10 rfl rfl, TT_1 3 rfl rfl, ne_X0, pd_3, by decide⟩
set_option maxRecDepth 20000 in
theorem m_X0_51 : VK RX0 51 yX7_passes (Cond.code yX7_passes prog_9_method_14_code 2 (Option.some FieldType.boolean)) 2 RX7 1 := ⟨_, _, rfl, h_X7_passes, TT_2 187 rfl rfl, TT_2 188 rfl rfl, TT_2 189 rfl rfl, TT_1 2 rfl rfl, ne_X7, pd_9, by decide⟩
set_option maxRecDepth 20000 in
theorem m_X0_55 : VK RX0 55 yX0_readRally (Cond.code yX0_readRally prog_2_method_5_code 6 (Option.some FieldType.boolean)) 6 RX0 1 := ⟨_, _, rfl, h_X0_readRally, TT_2 191 rfl rfl, TT_2 193 rfl rfl, TT_priv 9 rfl rfl, TT_1 3 rfl rfl, ne_X0, pd_43, by decide⟩
set_option maxRecDepth 20000 in
theorem m_X0_58 : VK RX0 58 yX7_passNumber (Cond.code yX7_passNumber prog_9_method_15_code 3 (Option.some FieldType.int)) 3 RX7 2 := ⟨_, _, rfl, h_X7_passNumber, TT_2 195 rfl rfl, TT_2 196 rfl rfl, TT_2 197 rfl rfl, TT_1 2 rfl rfl, ne_X7, pd_10, by decide⟩
set_option maxRecDepth 20000 in
theorem m_X0_62 : SK RX0 62 yX0_readOutcome (Cond.code yX0_readOutcome prog_2_method_6_code 2 (Option.some FieldType.int)) 2 1 := ⟨_, _, rfl, h_X0_readOutcome, TT_2 199 rfl rfl, TT_2 200 rfl rfl, TT_1 3 rfl rfl, ne_X0, pd_42, by decide⟩
set_option maxRecDepth 20000 in
theorem m_X1_3 : Cond.methodLink RX1 3 Lib.objectInit ∈ TT := TT_6 0 rfl rfl
set_option maxRecDepth 20000 in
theorem m_X1_11 : IK RX1 11 yX8_init (Cond.code yX8_init prog_10_method_1_code 1 (none : Option FieldType)) 1 0 := ⟨_, rfl, h_X8_init, Or.inr ⟨"ChaseCourt", List.mem_of_getElem? (i := 11) rfl⟩, TT_1 130 rfl rfl, TT_1 6 rfl rfl, rfl, ne_X8, pd_2, by decide⟩
set_option maxRecDepth 20000 in
theorem m_X1_23 : IK RX1 23 yX3_init (Cond.code yX3_init prog_5_method_1_code 1 (none : Option FieldType)) 1 0 := ⟨_, rfl, h_X3_init, Or.inr ⟨"ChaseCourt", List.mem_of_getElem? (i := 12) rfl⟩, TT_4 154 rfl rfl, TT_1 27 rfl rfl, rfl, ne_X3, pd_2, by decide⟩
set_option maxRecDepth 20000 in
theorem m_X1_54 : VK RX1 54 yX8_takeFrom (Cond.code yX8_takeFrom prog_10_method_2_code 2 (none : Option FieldType)) 2 RX8 1 := ⟨_, _, rfl, h_X8_takeFrom, TT_6 46 rfl rfl, TT_2 47 rfl rfl, TT_2 48 rfl rfl, TT_1 6 rfl rfl, ne_X8, pd_45, by decide⟩
set_option maxRecDepth 20000 in
theorem m_X1_58 : VK RX1 58 yX3_clear (Cond.code yX3_clear prog_5_method_2_code 1 (none : Option FieldType)) 1 RX3 0 := ⟨_, _, rfl, h_X3_clear, TT_6 47 rfl rfl, TT_4 228 rfl rfl, TT_4 229 rfl rfl, TT_1 27 rfl rfl, ne_X3, pd_2, by decide⟩
set_option maxRecDepth 20000 in
theorem m_X1_61 : VK RX1 61 yX1_reach (Cond.code yX1_reach prog_3_method_6_code 7 (none : Option FieldType)) 7 RX1 2 := ⟨_, _, rfl, h_X1_reach, TT_6 48 rfl rfl, TT_6 50 rfl rfl, TT_priv 45 rfl rfl, TT_1 29 rfl rfl, ne_X1, pd_33, by decide⟩
set_option maxRecDepth 20000 in
theorem m_X1_65 : VK RX1 65 yX1_turn (Cond.code yX1_turn prog_3_method_7_code 4 (none : Option FieldType)) 4 RX1 0 := ⟨_, _, rfl, h_X1_turn, TT_6 64 rfl rfl, TT_6 66 rfl rfl, TT_priv 46 rfl rfl, TT_1 29 rfl rfl, ne_X1, pd_2, by decide⟩
set_option maxRecDepth 20000 in
theorem m_X1_72 : VK RX1 72 yX1_fetch (Cond.code yX1_fetch prog_3_method_5_code 3 (none : Option FieldType)) 3 RX1 1 := ⟨_, _, rfl, h_X1_fetch, TT_6 72 rfl rfl, TT_6 74 rfl rfl, TT_priv 47 rfl rfl, TT_1 29 rfl rfl, ne_X1, pd_8, by decide⟩
set_option maxRecDepth 20000 in
theorem m_X1_80 : VK RX1 80 yX8_isOver (Cond.code yX8_isOver prog_10_method_4_code 2 (Option.some FieldType.boolean)) 2 RX8 1 := ⟨_, _, rfl, h_X8_isOver, TT_6 78 rfl rfl, TT_4 68 rfl rfl, TT_4 69 rfl rfl, TT_1 6 rfl rfl, ne_X8, pd_40, by decide⟩
set_option maxRecDepth 20000 in
theorem m_X1_84 : VK RX1 84 yX1_follow (Cond.code yX1_follow prog_3_method_4_code 8 (none : Option FieldType)) 8 RX1 4 := ⟨_, _, rfl, h_X1_follow, TT_6 79 rfl rfl, TT_6 81 rfl rfl, TT_priv 48 rfl rfl, TT_1 29 rfl rfl, ne_X1, pd_23, by decide⟩
set_option maxRecDepth 20000 in
theorem m_X1_92 : VK RX1 92 yX8_strike (Cond.code yX8_strike prog_10_method_7_code 6 (Option.some FieldType.int)) 6 RX8 3 := ⟨_, _, rfl, h_X8_strike, TT_6 83 rfl rfl, TT_4 88 rfl rfl, TT_4 89 rfl rfl, TT_1 6 rfl rfl, ne_X8, pd_27, by decide⟩
set_option maxRecDepth 20000 in
theorem m_X1_99 : SK RX1 99 yJ6_compare_7cf53 (Cond.code yJ6_compare_7cf53 prog_23_method_40_code 2 (Option.some FieldType.int)) 2 2 := ⟨_, _, rfl, h_J6_compare_7cf53, TT_6 84 rfl rfl, TT_4 92 rfl rfl, TT_1 25 rfl rfl, ne_J6, pd_10, by decide⟩
set_option maxRecDepth 20000 in
theorem m_X1_105 : VK RX1 105 yX0_pointBy (Cond.code yX0_pointBy prog_2_method_8_code 2 (Option.some FieldType.int)) 2 RX0 1 := ⟨_, _, rfl, h_X0_pointBy, TT_6 85 rfl rfl, TT_4 95 rfl rfl, TT_4 96 rfl rfl, TT_1 3 rfl rfl, ne_X0, pd_6, by decide⟩
set_option maxRecDepth 20000 in
theorem m_X1_111 : VK RX1 111 yX8_playOff (Cond.code yX8_playOff prog_10_method_8_code 2 (none : Option FieldType)) 2 RX8 1 := ⟨_, _, rfl, h_X8_playOff, TT_6 86 rfl rfl, TT_4 99 rfl rfl, TT_4 100 rfl rfl, TT_1 6 rfl rfl, ne_X8, pd_8, by decide⟩
set_option maxRecDepth 20000 in
theorem m_X1_114 : VK RX1 114 yX3_keyAt (Cond.code yX3_keyAt prog_5_method_4_code 2 (Option.some FieldType.int)) 2 RX3 1 := ⟨_, _, rfl, h_X3_keyAt, TT_6 76 rfl rfl, TT_5 35 rfl rfl, TT_5 36 rfl rfl, TT_1 27 rfl rfl, ne_X3, pd_6, by decide⟩
set_option maxRecDepth 20000 in
theorem m_X1_117 : VK RX1 117 yX8_become (Cond.code yX8_become prog_10_method_15_code 4 (none : Option FieldType)) 4 RX8 1 := ⟨_, _, rfl, h_X8_become, TT_6 77 rfl rfl, TT_5 39 rfl rfl, TT_5 40 rfl rfl, TT_1 6 rfl rfl, ne_X8, pd_8, by decide⟩
set_option maxRecDepth 20000 in
theorem m_X1_126 : VK RX1 126 yX8_code (Cond.code yX8_code prog_10_method_14_code 2 (Option.some FieldType.int)) 2 RX8 0 := ⟨_, _, rfl, h_X8_code, TT_6 52 rfl rfl, TT_5 0 rfl rfl, TT_5 1 rfl rfl, TT_1 6 rfl rfl, ne_X8, pd_1, by decide⟩
set_option maxRecDepth 20000 in
theorem m_X1_130 : VK RX1 130 yX3_placeOf (Cond.code yX3_placeOf prog_5_method_5_code 3 (Option.some FieldType.int)) 3 RX3 1 := ⟨_, _, rfl, h_X3_placeOf, TT_6 53 rfl rfl, TT_5 4 rfl rfl, TT_5 5 rfl rfl, TT_1 27 rfl rfl, ne_X3, pd_6, by decide⟩
set_option maxRecDepth 20000 in
theorem m_X1_133 : VK RX1 133 yX3_room (Cond.code yX3_room prog_5_method_3_code 1 (Option.some FieldType.int)) 1 RX3 0 := ⟨_, _, rfl, h_X3_room, TT_6 54 rfl rfl, TT_5 30 rfl rfl, TT_5 31 rfl rfl, TT_1 27 rfl rfl, ne_X3, pd_1, by decide⟩
set_option maxRecDepth 20000 in
theorem m_X1_136 : SK RX1 136 yJ7_copyOf_59c91 (Cond.code yJ7_copyOf_59c91 prog_34_method_123_code 3 (Option.some (FieldType.array FieldType.int))) 3 2 := ⟨_, _, rfl, h_J7_copyOf_59c91, TT_6 55 rfl rfl, TT_3 135 rfl rfl, TT_1 20 rfl rfl, ne_J7, pd_65, by decide⟩
set_option maxRecDepth 20000 in
theorem m_X1_142 : SK RX1 142 yJ7_copyOf_c38d5 (Cond.code yJ7_copyOf_c38d5 prog_34_method_124_code 3 (Option.some (FieldType.array FieldType.long))) 3 2 := ⟨_, _, rfl, h_J7_copyOf_c38d5, TT_6 56 rfl rfl, TT_6 57 rfl rfl, TT_1 20 rfl rfl, ne_J7, pd_68, by decide⟩
set_option maxRecDepth 20000 in
theorem m_X1_158 : VK RX1 158 yX1_tally (Cond.code yX1_tally prog_3_method_9_code 4 (none : Option FieldType)) 4 RX1 2 := ⟨_, _, rfl, h_X1_tally, TT_6 91 rfl rfl, TT_6 93 rfl rfl, TT_priv 49 rfl rfl, TT_1 29 rfl rfl, ne_X1, pd_33, by decide⟩
set_option maxRecDepth 20000 in
theorem m_X2_3 : Cond.methodLink RX2 3 Lib.objectInit ∈ TT := TT_4 150 rfl rfl
set_option maxRecDepth 20000 in
theorem m_X2_11 : IK RX2 11 yX3_init (Cond.code yX3_init prog_5_method_1_code 1 (none : Option FieldType)) 1 0 := ⟨_, rfl, h_X3_init, Or.inr ⟨"ChaseCourt", List.mem_of_getElem? (i := 7) rfl⟩, TT_4 154 rfl rfl, TT_1 27 rfl rfl, rfl, ne_X3, pd_2, by decide⟩
set_option maxRecDepth 20000 in
theorem m_X2_20 : IK RX2 20 yX8_init (Cond.code yX8_init prog_10_method_1_code 1 (none : Option FieldType)) 1 0 := ⟨_, rfl, h_X8_init, Or.inr ⟨"ChaseCourt", List.mem_of_getElem? (i := 8) rfl⟩, TT_1 130 rfl rfl, TT_1 6 rfl rfl, rfl, ne_X8, pd_2, by decide⟩
set_option maxRecDepth 20000 in
theorem m_X2_73 : VK RX2 73 yX3_clear (Cond.code yX3_clear prog_5_method_2_code 1 (none : Option FieldType)) 1 RX3 0 := ⟨_, _, rfl, h_X3_clear, TT_4 227 rfl rfl, TT_4 228 rfl rfl, TT_4 229 rfl rfl, TT_1 27 rfl rfl, ne_X3, pd_2, by decide⟩
set_option maxRecDepth 20000 in
theorem m_X2_81 : VK RX2 81 yX8_takeFrom (Cond.code yX8_takeFrom prog_10_method_2_code 2 (none : Option FieldType)) 2 RX8 1 := ⟨_, _, rfl, h_X8_takeFrom, TT_4 234 rfl rfl, TT_2 47 rfl rfl, TT_2 48 rfl rfl, TT_1 6 rfl rfl, ne_X8, pd_45, by decide⟩
set_option maxRecDepth 20000 in
theorem m_X2_85 : VK RX2 85 yX8_code (Cond.code yX8_code prog_10_method_14_code 2 (Option.some FieldType.int)) 2 RX8 0 := ⟨_, _, rfl, h_X8_code, TT_4 239 rfl rfl, TT_5 0 rfl rfl, TT_5 1 rfl rfl, TT_1 6 rfl rfl, ne_X8, pd_1, by decide⟩
set_option maxRecDepth 20000 in
theorem m_X2_89 : VK RX2 89 yX3_placeOf (Cond.code yX3_placeOf prog_5_method_5_code 3 (Option.some FieldType.int)) 3 RX3 1 := ⟨_, _, rfl, h_X3_placeOf, TT_5 3 rfl rfl, TT_5 4 rfl rfl, TT_5 5 rfl rfl, TT_1 27 rfl rfl, ne_X3, pd_6, by decide⟩
set_option maxRecDepth 20000 in
theorem m_X2_93 : VK RX2 93 yX2_takeAll (Cond.code yX2_takeAll prog_4_method_5_code 4 (none : Option FieldType)) 4 RX2 1 := ⟨_, _, rfl, h_X2_takeAll, TT_5 21 rfl rfl, TT_5 23 rfl rfl, TT_priv 29 rfl rfl, TT_1 26 rfl rfl, ne_X2, pd_8, by decide⟩
set_option maxRecDepth 20000 in
theorem m_X2_100 : VK RX2 100 yX2_spread (Cond.code yX2_spread prog_4_method_6_code 4 (none : Option FieldType)) 4 RX2 1 := ⟨_, _, rfl, h_X2_spread, TT_5 48 rfl rfl, TT_5 50 rfl rfl, TT_priv 32 rfl rfl, TT_1 26 rfl rfl, ne_X2, pd_8, by decide⟩
set_option maxRecDepth 20000 in
theorem m_X2_103 : VK RX2 103 yX2_makeRoom (Cond.code yX2_makeRoom prog_4_method_12_code 2 (none : Option FieldType)) 2 RX2 0 := ⟨_, _, rfl, h_X2_makeRoom, TT_5 25 rfl rfl, TT_5 27 rfl rfl, TT_priv 30 rfl rfl, TT_1 26 rfl rfl, ne_X2, pd_2, by decide⟩
set_option maxRecDepth 20000 in
theorem m_X2_106 : VK RX2 106 yX3_keyAt (Cond.code yX3_keyAt prog_5_method_4_code 2 (Option.some FieldType.int)) 2 RX3 1 := ⟨_, _, rfl, h_X3_keyAt, TT_5 34 rfl rfl, TT_5 35 rfl rfl, TT_5 36 rfl rfl, TT_1 27 rfl rfl, ne_X3, pd_6, by decide⟩
set_option maxRecDepth 20000 in
theorem m_X2_109 : VK RX2 109 yX8_become (Cond.code yX8_become prog_10_method_15_code 4 (none : Option FieldType)) 4 RX8 1 := ⟨_, _, rfl, h_X8_become, TT_5 38 rfl rfl, TT_5 39 rfl rfl, TT_5 40 rfl rfl, TT_1 6 rfl rfl, ne_X8, pd_8, by decide⟩
set_option maxRecDepth 20000 in
theorem m_X2_116 : VK RX2 116 yX8_takeBisque (Cond.code yX8_takeBisque prog_10_method_9_code 4 (Option.some FieldType.boolean)) 4 RX8 2 := ⟨_, _, rfl, h_X8_takeBisque, TT_5 42 rfl rfl, TT_4 127 rfl rfl, TT_4 128 rfl rfl, TT_1 6 rfl rfl, ne_X8, pd_34, by decide⟩
set_option maxRecDepth 20000 in
theorem m_X2_120 : VK RX2 120 yX2_placeBehind (Cond.code yX2_placeBehind prog_4_method_10_code 1 (Option.some FieldType.int)) 1 RX2 0 := ⟨_, _, rfl, h_X2_placeBehind, TT_5 43 rfl rfl, TT_5 45 rfl rfl, TT_priv 31 rfl rfl, TT_1 26 rfl rfl, ne_X2, pd_1, by decide⟩
set_option maxRecDepth 20000 in
theorem m_X2_127 : VK RX2 127 yX10_pairOf (Cond.code yX10_pairOf prog_12_method_3_code 2 (Option.some FieldType.int)) 2 RX10 1 := ⟨_, _, rfl, h_X10_pairOf, TT_5 52 rfl rfl, TT_5 53 rfl rfl, TT_5 54 rfl rfl, TT_1 4 rfl rfl, ne_X10, pd_44, by decide⟩
set_option maxRecDepth 20000 in
theorem m_X2_131 : VK RX2 131 yX2_fillWeights (Cond.code yX2_fillWeights prog_4_method_7_code 7 (none : Option FieldType)) 7 RX2 1 := ⟨_, _, rfl, h_X2_fillWeights, TT_5 57 rfl rfl, TT_5 59 rfl rfl, TT_priv 33 rfl rfl, TT_1 26 rfl rfl, ne_X2, pd_8, by decide⟩
set_option maxRecDepth 20000 in
theorem m_X2_134 : VK RX2 134 yX2_mayCome (Cond.code yX2_mayCome prog_4_method_9_code 3 (Option.some FieldType.boolean)) 3 RX2 1 := ⟨_, _, rfl, h_X2_mayCome, TT_5 67 rfl rfl, TT_5 69 rfl rfl, TT_priv 35 rfl rfl, TT_1 26 rfl rfl, ne_X2, pd_9, by decide⟩
set_option maxRecDepth 20000 in
theorem m_X2_138 : VK RX2 138 yX8_playOff (Cond.code yX8_playOff prog_10_method_8_code 2 (none : Option FieldType)) 2 RX8 1 := ⟨_, _, rfl, h_X8_playOff, TT_5 71 rfl rfl, TT_4 99 rfl rfl, TT_4 100 rfl rfl, TT_1 6 rfl rfl, ne_X8, pd_8, by decide⟩
set_option maxRecDepth 20000 in
theorem m_X2_141 : SK RX2 141 yJ9_min_7cf53 (Cond.code yJ9_min_7cf53 prog_24_method_69_code 2 (Option.some FieldType.int)) 2 2 := ⟨_, _, rfl, h_J9_min_7cf53, TT_5 72 rfl rfl, TT_2 76 rfl rfl, TT_1 8 rfl rfl, ne_J9, pd_10, by decide⟩
set_option maxRecDepth 20000 in
theorem m_X2_147 : VK RX2 147 yX8_strike (Cond.code yX8_strike prog_10_method_7_code 6 (Option.some FieldType.int)) 6 RX8 3 := ⟨_, _, rfl, h_X8_strike, TT_5 73 rfl rfl, TT_4 88 rfl rfl, TT_4 89 rfl rfl, TT_1 6 rfl rfl, ne_X8, pd_27, by decide⟩
set_option maxRecDepth 20000 in
theorem m_X2_151 : VK RX2 151 yX2_write (Cond.code yX2_write prog_4_method_11_code 4 (none : Option FieldType)) 4 RX2 2 := ⟨_, _, rfl, h_X2_write, TT_5 74 rfl rfl, TT_5 76 rfl rfl, TT_priv 36 rfl rfl, TT_1 26 rfl rfl, ne_X2, pd_12, by decide⟩
set_option maxRecDepth 20000 in
theorem m_X2_158 : VK RX2 158 yX2_fillOff (Cond.code yX2_fillOff prog_4_method_8_code 6 (none : Option FieldType)) 6 RX2 2 := ⟨_, _, rfl, h_X2_fillOff, TT_5 61 rfl rfl, TT_5 63 rfl rfl, TT_priv 34 rfl rfl, TT_1 26 rfl rfl, ne_X2, pd_12, by decide⟩
set_option maxRecDepth 20000 in
theorem m_X2_169 : SK RX2 169 yJ6_compare_7cf53 (Cond.code yJ6_compare_7cf53 prog_23_method_40_code 2 (Option.some FieldType.int)) 2 2 := ⟨_, _, rfl, h_J6_compare_7cf53, TT_5 65 rfl rfl, TT_4 92 rfl rfl, TT_1 25 rfl rfl, ne_J6, pd_10, by decide⟩
set_option maxRecDepth 20000 in
theorem m_X2_174 : VK RX2 174 yX0_pointBy (Cond.code yX0_pointBy prog_2_method_8_code 2 (Option.some FieldType.int)) 2 RX0 1 := ⟨_, _, rfl, h_X0_pointBy, TT_5 66 rfl rfl, TT_4 95 rfl rfl, TT_4 96 rfl rfl, TT_1 3 rfl rfl, ne_X0, pd_6, by decide⟩
set_option maxRecDepth 20000 in
theorem m_X2_183 : VK RX2 183 yX2_placeOf (Cond.code yX2_placeOf prog_4_method_3_code 2 (Option.some FieldType.int)) 2 RX2 1 := ⟨_, _, rfl, h_X2_placeOf, TT_5 47 rfl rfl, TT_4 236 rfl rfl, TT_4 237 rfl rfl, TT_1 26 rfl rfl, ne_X2, pd_44, by decide⟩
set_option maxRecDepth 20000 in
theorem m_X2_185 : SK RX2 185 yJ7_copyOf_59c91 (Cond.code yJ7_copyOf_59c91 prog_34_method_123_code 3 (Option.some (FieldType.array FieldType.int))) 3 2 := ⟨_, _, rfl, h_J7_copyOf_59c91, TT_5 33 rfl rfl, TT_3 135 rfl rfl, TT_1 20 rfl rfl, ne_J7, pd_65, by decide⟩
set_option maxRecDepth 20000 in
theorem m_X2_191 : VK RX2 191 yX3_room (Cond.code yX3_room prog_5_method_3_code 1 (Option.some FieldType.int)) 1 RX3 0 := ⟨_, _, rfl, h_X3_room, TT_5 29 rfl rfl, TT_5 30 rfl rfl, TT_5 31 rfl rfl, TT_1 27 rfl rfl, ne_X3, pd_1, by decide⟩
set_option maxRecDepth 20000 in
theorem m_X2_194 : VK RX2 194 yX2_makeRows (Cond.code yX2_makeRows prog_4_method_13_code 2 (none : Option FieldType)) 2 RX2 0 := ⟨_, _, rfl, h_X2_makeRows, TT_5 85 rfl rfl, TT_5 87 rfl rfl, TT_priv 37 rfl rfl, TT_1 26 rfl rfl, ne_X2, pd_2, by decide⟩
set_option maxRecDepth 20000 in
theorem m_X2_197 : VK RX2 197 yX2_fillEnds (Cond.code yX2_fillEnds prog_4_method_15_code 5 (none : Option FieldType)) 5 RX2 3 := ⟨_, _, rfl, h_X2_fillEnds, TT_5 89 rfl rfl, TT_5 91 rfl rfl, TT_priv 38 rfl rfl, TT_1 26 rfl rfl, ne_X2, pd_67, by decide⟩
set_option maxRecDepth 20000 in
theorem m_X2_201 : VK RX2 201 yX2_weighLevel (Cond.code yX2_weighLevel prog_4_method_16_code 4 (none : Option FieldType)) 4 RX2 1 := ⟨_, _, rfl, h_X2_weighLevel, TT_5 94 rfl rfl, TT_5 96 rfl rfl, TT_priv 39 rfl rfl, TT_1 26 rfl rfl, ne_X2, pd_8, by decide⟩
set_option maxRecDepth 20000 in
theorem m_X2_205 : VK RX2 205 yX2_most (Cond.code yX2_most prog_4_method_17_code 5 (Option.some FieldType.int)) 5 RX2 2 := ⟨_, _, rfl, h_X2_most, TT_5 98 rfl rfl, TT_5 100 rfl rfl, TT_priv 40 rfl rfl, TT_1 26 rfl rfl, ne_X2, pd_38, by decide⟩
set_option maxRecDepth 20000 in
theorem m_X2_209 : SK RX2 209 yJ9_max_7cf53 (Cond.code yJ9_max_7cf53 prog_24_method_65_code 2 (Option.some FieldType.int)) 2 2 := ⟨_, _, rfl, h_J9_max_7cf53, TT_5 107 rfl rfl, TT_5 108 rfl rfl, TT_1 8 rfl rfl, ne_J9, pd_10, by decide⟩
set_option maxRecDepth 20000 in
theorem m_X2_212 : VK RX2 212 yX2_weigh (Cond.code yX2_weigh prog_4_method_18_code 8 (Option.some FieldType.int)) 8 RX2 3 := ⟨_, _, rfl, h_X2_weigh, TT_5 102 rfl rfl, TT_5 104 rfl rfl, TT_priv 41 rfl rfl, TT_1 26 rfl rfl, ne_X2, pd_32, by decide⟩
set_option maxRecDepth 20000 in
theorem m_X3_1 : Cond.methodLink RX3 1 Lib.objectInit ∈ TT := TT_4 156 rfl rfl
set_option maxRecDepth 20000 in
theorem m_X3_16 : SK RX3 16 yJ7_fill_53178 (Cond.code yJ7_fill_53178 prog_34_method_103_code 4 (none : Option FieldType)) 4 2 := ⟨_, _, rfl, h_J7_fill_53178, TT_4 231 rfl rfl, TT_4 232 rfl rfl, TT_1 20 rfl rfl, ne_J7, pd_64, by decide⟩
set_option maxRecDepth 20000 in
theorem m_X3_26 : VK RX3 26 yX3_grow (Cond.code yX3_grow prog_5_method_7_code 2 (none : Option FieldType)) 2 RX3 0 := ⟨_, _, rfl, h_X3_grow, TT_5 7 rfl rfl, TT_5 9 rfl rfl, TT_priv 27 rfl rfl, TT_1 27 rfl rfl, ne_X3, pd_2, by decide⟩
set_option maxRecDepth 20000 in
theorem m_X3_29 : VK RX3 29 yX3_slotOf (Cond.code yX3_slotOf prog_5_method_6_code 4 (Option.some FieldType.int)) 4 RX3 1 := ⟨_, _, rfl, h_X3_slotOf, TT_5 12 rfl rfl, TT_5 14 rfl rfl, TT_priv 28 rfl rfl, TT_1 27 rfl rfl, ne_X3, pd_6, by decide⟩
set_option maxRecDepth 20000 in
theorem m_X3_34 : SK RX3 34 yJ7_copyOf_59c91 (Cond.code yJ7_copyOf_59c91 prog_34_method_123_code 3 (Option.some (FieldType.array FieldType.int))) 3 2 := ⟨_, _, rfl, h_J7_copyOf_59c91, TT_5 11 rfl rfl, TT_3 135 rfl rfl, TT_1 20 rfl rfl, ne_J7, pd_65, by decide⟩
set_option maxRecDepth 20000 in
theorem m_X4_3 : Cond.methodLink RX4 3 Lib.objectInit ∈ TT := TT_3 154 rfl rfl
set_option maxRecDepth 20000 in
theorem m_X4_18 : SK RX4 18 yJ9_min_7cf53 (Cond.code yJ9_min_7cf53 prog_24_method_69_code 2 (Option.some FieldType.int)) 2 2 := ⟨_, _, rfl, h_J9_min_7cf53, TT_3 233 rfl rfl, TT_2 76 rfl rfl, TT_1 8 rfl rfl, ne_J9, pd_10, by decide⟩
set_option maxRecDepth 20000 in
theorem m_X4_24 : VK RX4 24 yX4_holds (Cond.code yX4_holds prog_6_method_3_code 8 (Option.some FieldType.boolean)) 8 RX4 4 := ⟨_, _, rfl, h_X4_holds, TT_3 234 rfl rfl, TT_3 236 rfl rfl, TT_priv 20 rfl rfl, TT_1 21 rfl rfl, ne_X4, pd_24, by decide⟩
set_option maxRecDepth 20000 in
theorem m_X4_30 : SK RX4 30 yX4_joins (Cond.code yX4_joins prog_6_method_4_code 1 (Option.some FieldType.boolean)) 1 1 := ⟨_, _, rfl, h_X4_joins, TT_3 238 rfl rfl, TT_3 239 rfl rfl, TT_1 21 rfl rfl, ne_X4, pd_9, by decide⟩
set_option maxRecDepth 20000 in
theorem m_X4_34 : SK RX4 34 yX4_joined (Cond.code yX4_joined prog_6_method_5_code 3 (Option.some FieldType.int)) 3 3 := ⟨_, _, rfl, h_X4_joined, TT_4 1 rfl rfl, TT_4 2 rfl rfl, TT_1 21 rfl rfl, ne_X4, pd_14, by decide⟩
set_option maxRecDepth 20000 in
theorem m_X4_38 : SK RX4 38 yX4_fact (Cond.code yX4_fact prog_6_method_6_code 3 (Option.some FieldType.int)) 3 3 := ⟨_, _, rfl, h_X4_fact, TT_4 4 rfl rfl, TT_4 5 rfl rfl, TT_1 21 rfl rfl, ne_X4, pd_28, by decide⟩
set_option maxRecDepth 20000 in
theorem m_X5_3 : Cond.methodLink RX5 3 Lib.objectInit ∈ TT := TT_3 67 rfl rfl
set_option maxRecDepth 20000 in
theorem m_X5_23 : VK RX5 23 yX7_thing (Cond.code yX7_thing prog_9_method_11_code 1 (Option.some FieldType.int)) 1 RX7 0 := ⟨_, _, rfl, h_X7_thing, TT_3 85 rfl rfl, TT_2 180 rfl rfl, TT_2 181 rfl rfl, TT_1 2 rfl rfl, ne_X7, pd_1, by decide⟩
set_option maxRecDepth 20000 in
theorem m_X5_29 : VK RX5 29 yX5_readHead (Cond.code yX5_readHead prog_7_method_4_code 2 (Option.some FieldType.boolean)) 2 RX5 0 := ⟨_, _, rfl, h_X5_readHead, TT_3 86 rfl rfl, TT_3 88 rfl rfl, TT_priv 12 rfl rfl, TT_1 19 rfl rfl, ne_X5, pd_3, by decide⟩
set_option maxRecDepth 20000 in
theorem m_X5_33 : VK RX5 33 yX7_passes (Cond.code yX7_passes prog_9_method_14_code 2 (Option.some FieldType.boolean)) 2 RX7 1 := ⟨_, _, rfl, h_X7_passes, TT_3 90 rfl rfl, TT_2 188 rfl rfl, TT_2 189 rfl rfl, TT_1 2 rfl rfl, ne_X7, pd_9, by decide⟩
set_option maxRecDepth 20000 in
theorem m_X5_37 : VK RX5 37 yX5_readAny (Cond.code yX5_readAny prog_7_method_5_code 3 (Option.some FieldType.boolean)) 3 RX5 1 := ⟨_, _, rfl, h_X5_readAny, TT_3 96 rfl rfl, TT_3 98 rfl rfl, TT_priv 14 rfl rfl, TT_1 19 rfl rfl, ne_X5, pd_9, by decide⟩
set_option maxRecDepth 20000 in
theorem m_X5_40 : VK RX5 40 yX7_place (Cond.code yX7_place prog_9_method_12_code 1 (Option.some FieldType.int)) 1 RX7 0 := ⟨_, _, rfl, h_X7_place, TT_3 127 rfl rfl, TT_2 203 rfl rfl, TT_2 204 rfl rfl, TT_1 2 rfl rfl, ne_X7, pd_1, by decide⟩
set_option maxRecDepth 20000 in
theorem m_X5_46 : SK RX5 46 yJ7_copyOf_59c91 (Cond.code yJ7_copyOf_59c91 prog_34_method_123_code 3 (Option.some (FieldType.array FieldType.int))) 3 2 := ⟨_, _, rfl, h_J7_copyOf_59c91, TT_3 134 rfl rfl, TT_3 135 rfl rfl, TT_1 20 rfl rfl, ne_J7, pd_65, by decide⟩
set_option maxRecDepth 20000 in
theorem m_X5_52 : VK RX5 52 yX7_passNumber (Cond.code yX7_passNumber prog_9_method_15_code 3 (Option.some FieldType.int)) 3 RX7 2 := ⟨_, _, rfl, h_X7_passNumber, TT_3 91 rfl rfl, TT_2 196 rfl rfl, TT_2 197 rfl rfl, TT_1 2 rfl rfl, ne_X7, pd_10, by decide⟩
set_option maxRecDepth 20000 in
theorem m_X5_56 : VK RX5 56 yX5_write (Cond.code yX5_write prog_7_method_12_code 2 (none : Option FieldType)) 2 RX5 1 := ⟨_, _, rfl, h_X5_write, TT_3 92 rfl rfl, TT_3 94 rfl rfl, TT_priv 13 rfl rfl, TT_1 19 rfl rfl, ne_X5, pd_8, by decide⟩
set_option maxRecDepth 20000 in
theorem m_X5_60 : VK RX5 60 yX5_readAll (Cond.code yX5_readAll prog_7_method_6_code 3 (Option.some FieldType.boolean)) 3 RX5 1 := ⟨_, _, rfl, h_X5_readAll, TT_3 100 rfl rfl, TT_3 102 rfl rfl, TT_priv 15 rfl rfl, TT_1 19 rfl rfl, ne_X5, pd_9, by decide⟩
set_option maxRecDepth 20000 in
theorem m_X5_63 : VK RX5 63 yX5_readAtom (Cond.code yX5_readAtom prog_7_method_7_code 3 (Option.some FieldType.boolean)) 3 RX5 1 := ⟨_, _, rfl, h_X5_readAtom, TT_3 104 rfl rfl, TT_3 106 rfl rfl, TT_priv 16 rfl rfl, TT_1 19 rfl rfl, ne_X5, pd_9, by decide⟩
set_option maxRecDepth 20000 in
theorem m_X5_66 : VK RX5 66 yX5_readInner (Cond.code yX5_readInner prog_7_method_8_code 3 (Option.some FieldType.boolean)) 3 RX5 2 := ⟨_, _, rfl, h_X5_readInner, TT_3 108 rfl rfl, TT_3 110 rfl rfl, TT_priv 17 rfl rfl, TT_1 19 rfl rfl, ne_X5, pd_13, by decide⟩
set_option maxRecDepth 20000 in
theorem m_X5_70 : VK RX5 70 yX7_pass (Cond.code yX7_pass prog_9_method_13_code 1 (none : Option FieldType)) 1 RX7 0 := ⟨_, _, rfl, h_X7_pass, TT_3 112 rfl rfl, TT_3 113 rfl rfl, TT_3 114 rfl rfl, TT_1 2 rfl rfl, ne_X7, pd_2, by decide⟩
set_option maxRecDepth 20000 in
theorem m_X5_73 : VK RX5 73 yX5_readCompared (Cond.code yX5_readCompared prog_7_method_9_code 2 (Option.some FieldType.boolean)) 2 RX5 0 := ⟨_, _, rfl, h_X5_readCompared, TT_3 116 rfl rfl, TT_3 118 rfl rfl, TT_priv 18 rfl rfl, TT_1 19 rfl rfl, ne_X5, pd_3, by decide⟩
set_option maxRecDepth 20000 in
theorem m_X5_76 : VK RX5 76 yX5_readSum (Cond.code yX5_readSum prog_7_method_10_code 4 (Option.some FieldType.boolean)) 4 RX5 0 := ⟨_, _, rfl, h_X5_readSum, TT_3 120 rfl rfl, TT_3 122 rfl rfl, TT_priv 19 rfl rfl, TT_1 19 rfl rfl, ne_X5, pd_3, by decide⟩
set_option maxRecDepth 20000 in
theorem m_X5_79 : SK RX5 79 yX5_isPart (Cond.code yX5_isPart prog_7_method_11_code 1 (Option.some FieldType.boolean)) 1 1 := ⟨_, _, rfl, h_X5_isPart, TT_3 124 rfl rfl, TT_3 125 rfl rfl, TT_1 19 rfl rfl, ne_X5, pd_9, by decide⟩
set_option maxRecDepth 20000 in
theorem m_X6_3 : Cond.methodLink RX6 3 Lib.objectInit ∈ TT := TT_1 112 rfl rfl
set_option maxRecDepth 20000 in
theorem m_X6_25 : IK RX6 25 yX4_init (Cond.code yX4_init prog_6_method_1_code 2 (none : Option FieldType)) 2 1 := ⟨_, rfl, h_X4_init, Or.inl (TT_3 151 rfl rfl), TT_3 152 rfl rfl, TT_1 21 rfl rfl, rfl, ne_X4, pd_63, by decide⟩
set_option maxRecDepth 20000 in
theorem m_X6_28 : VK RX6 28 yX4_styleOf (Cond.code yX4_styleOf prog_6_method_2_code 6 (Option.some FieldType.int)) 6 RX4 2 := ⟨_, _, rfl, h_X4_styleOf, TT_3 229 rfl rfl, TT_3 230 rfl rfl, TT_3 231 rfl rfl, TT_1 21 rfl rfl, ne_X4, pd_35, by decide⟩
set_option maxRecDepth 20000 in
theorem m_X7_5 : Cond.methodLink RX7 5 Lib.objectInit ∈ TT := TT_1 43 rfl rfl
set_option maxRecDepth 20000 in
theorem m_X7_25 : SK RX7 25 yJ9_min_7cf53 (Cond.code yJ9_min_7cf53 prog_24_method_69_code 2 (Option.some FieldType.int)) 2 2 := ⟨_, _, rfl, h_J9_min_7cf53, TT_2 75 rfl rfl, TT_2 76 rfl rfl, TT_1 8 rfl rfl, ne_J9, pd_10, by decide⟩
set_option maxRecDepth 20000 in
theorem m_X7_41 : VK RX7 41 yX7_scanThing (Cond.code yX7_scanThing prog_9_method_3_code 3 (Option.some FieldType.int)) 3 RX7 1 := ⟨_, _, rfl, h_X7_scanThing, TT_2 78 rfl rfl, TT_2 80 rfl rfl, TT_priv 2 rfl rfl, TT_1 2 rfl rfl, ne_X7, pd_6, by decide⟩
set_option maxRecDepth 20000 in
theorem m_X7_45 : SK RX7 45 yX7_isLetter (Cond.code yX7_isLetter prog_9_method_4_code 1 (Option.some FieldType.boolean)) 1 1 := ⟨_, _, rfl, h_X7_isLetter, TT_2 82 rfl rfl, TT_2 83 rfl rfl, TT_1 2 rfl rfl, ne_X7, pd_9, by decide⟩
set_option maxRecDepth 20000 in
theorem m_X7_49 : VK RX7 49 yX7_wordAt (Cond.code yX7_wordAt prog_9_method_7_code 4 (Option.some FieldType.int)) 4 RX7 2 := ⟨_, _, rfl, h_X7_wordAt, TT_2 85 rfl rfl, TT_2 87 rfl rfl, TT_priv 3 rfl rfl, TT_1 2 rfl rfl, ne_X7, pd_10, by decide⟩
set_option maxRecDepth 20000 in
theorem m_X7_52 : SK RX7 52 yX7_isDigit (Cond.code yX7_isDigit prog_9_method_5_code 1 (Option.some FieldType.boolean)) 1 1 := ⟨_, _, rfl, h_X7_isDigit, TT_2 167 rfl rfl, TT_2 168 rfl rfl, TT_1 2 rfl rfl, ne_X7, pd_9, by decide⟩
set_option maxRecDepth 20000 in
theorem m_X7_55 : VK RX7 55 yX7_numberAt (Cond.code yX7_numberAt prog_9_method_6_code 5 (Option.some FieldType.int)) 5 RX7 2 := ⟨_, _, rfl, h_X7_numberAt, TT_2 170 rfl rfl, TT_2 172 rfl rfl, TT_priv 7 rfl rfl, TT_1 2 rfl rfl, ne_X7, pd_10, by decide⟩
set_option maxRecDepth 20000 in
theorem m_X7_58 : VK RX7 58 yX7_courtWordAt (Cond.code yX7_courtWordAt prog_9_method_8_code 3 (Option.some FieldType.int)) 3 RX7 2 := ⟨_, _, rfl, h_X7_courtWordAt, TT_2 89 rfl rfl, TT_2 91 rfl rfl, TT_priv 4 rfl rfl, TT_1 2 rfl rfl, ne_X7, pd_10, by decide⟩
set_option maxRecDepth 20000 in
theorem m_X7_61 : VK RX7 61 yX7_ruleWordAt (Cond.code yX7_ruleWordAt prog_9_method_9_code 3 (Option.some FieldType.int)) 3 RX7 2 := ⟨_, _, rfl, h_X7_ruleWordAt, TT_2 152 rfl rfl, TT_2 154 rfl rfl, TT_priv 6 rfl rfl, TT_1 2 rfl rfl, ne_X7, pd_10, by decide⟩
set_option maxRecDepth 20000 in
theorem m_X7_66 : VK RX7 66 yX7_spells (Cond.code yX7_spells prog_9_method_10_code 5 (Option.some FieldType.boolean)) 5 RX7 3 := ⟨_, _, rfl, h_X7_spells, TT_2 94 rfl rfl, TT_2 96 rfl rfl, TT_priv 5 rfl rfl, TT_1 2 rfl rfl, ne_X7, pd_29, by decide⟩
set_option maxRecDepth 20000 in
theorem m_X7_104 : VK RX7 104 yJ0_length_8abf5 (Cond.code yJ0_length_8abf5 prog_26_method_54_code 1 (Option.some FieldType.int)) 1 RJ0 0 := ⟨_, _, rfl, h_J0_length_8abf5, TT_2 98 rfl rfl, TT_2 99 rfl rfl, TT_2 100 rfl rfl, TT_1 9 rfl rfl, ne_J0, pd_1, by decide⟩
set_option maxRecDepth 20000 in
theorem m_X7_109 : VK RX7 109 yJ0_charAt_5068e (Cond.code yJ0_charAt_5068e prog_26_method_56_code 2 (Option.some FieldType.char)) 2 RJ0 1 := ⟨_, _, rfl, h_J0_charAt_5068e, TT_2 108 rfl rfl, TT_2 109 rfl rfl, TT_2 110 rfl rfl, TT_1 9 rfl rfl, ne_J0, pd_5, by decide⟩
set_option maxRecDepth 20000 in
theorem m_X8_3 : Cond.methodLink RX8 3 Lib.objectInit ∈ TT := TT_1 132 rfl rfl
set_option maxRecDepth 20000 in
theorem m_X8_51 : VK RX8 51 yX8_isPointOfGame (Cond.code yX8_isPointOfGame prog_10_method_5_code 1 (Option.some FieldType.boolean)) 1 RX8 0 := ⟨_, _, rfl, h_X8_isPointOfGame, TT_4 46 rfl rfl, TT_4 47 rfl rfl, TT_4 48 rfl rfl, TT_1 6 rfl rfl, ne_X8, pd_3, by decide⟩
set_option maxRecDepth 20000 in
theorem m_X8_55 : SK RX8 55 yJ6_compare_7cf53 (Cond.code yJ6_compare_7cf53 prog_23_method_40_code 2 (Option.some FieldType.int)) 2 2 := ⟨_, _, rfl, h_J6_compare_7cf53, TT_4 91 rfl rfl, TT_4 92 rfl rfl, TT_1 25 rfl rfl, ne_J6, pd_10, by decide⟩
set_option maxRecDepth 20000 in
theorem m_X8_61 : VK RX8 61 yX0_pointBy (Cond.code yX0_pointBy prog_2_method_8_code 2 (Option.some FieldType.int)) 2 RX0 1 := ⟨_, _, rfl, h_X0_pointBy, TT_4 94 rfl rfl, TT_4 95 rfl rfl, TT_4 96 rfl rfl, TT_1 3 rfl rfl, ne_X0, pd_6, by decide⟩
set_option maxRecDepth 20000 in
theorem m_X8_65 : VK RX8 65 yX8_playOff (Cond.code yX8_playOff prog_10_method_8_code 2 (none : Option FieldType)) 2 RX8 1 := ⟨_, _, rfl, h_X8_playOff, TT_4 98 rfl rfl, TT_4 99 rfl rfl, TT_4 100 rfl rfl, TT_1 6 rfl rfl, ne_X8, pd_8, by decide⟩
set_option maxRecDepth 20000 in
theorem m_X8_69 : VK RX8 69 yX8_addChase (Cond.code yX8_addChase prog_10_method_10_code 2 (none : Option FieldType)) 2 RX8 1 := ⟨_, _, rfl, h_X8_addChase, TT_4 111 rfl rfl, TT_4 113 rfl rfl, TT_priv 24 rfl rfl, TT_1 6 rfl rfl, ne_X8, pd_8, by decide⟩
set_option maxRecDepth 20000 in
theorem m_X8_72 : VK RX8 72 yX8_givePoint (Cond.code yX8_givePoint prog_10_method_11_code 2 (none : Option FieldType)) 2 RX8 1 := ⟨_, _, rfl, h_X8_givePoint, TT_4 102 rfl rfl, TT_4 104 rfl rfl, TT_priv 22 rfl rfl, TT_1 6 rfl rfl, ne_X8, pd_8, by decide⟩
set_option maxRecDepth 20000 in
theorem m_X8_78 : VK RX8 78 yX8_changeEnds (Cond.code yX8_changeEnds prog_10_method_13_code 2 (none : Option FieldType)) 2 RX8 1 := ⟨_, _, rfl, h_X8_changeEnds, TT_4 115 rfl rfl, TT_4 117 rfl rfl, TT_priv 25 rfl rfl, TT_1 6 rfl rfl, ne_X8, pd_8, by decide⟩
set_option maxRecDepth 20000 in
theorem m_X8_81 : VK RX8 81 yX8_point (Cond.code yX8_point prog_10_method_12_code 4 (Option.some FieldType.boolean)) 4 RX8 1 := ⟨_, _, rfl, h_X8_point, TT_4 106 rfl rfl, TT_4 108 rfl rfl, TT_priv 23 rfl rfl, TT_1 6 rfl rfl, ne_X8, pd_9, by decide⟩
set_option maxRecDepth 20000 in
theorem m_X8_85 : VK RX8 85 yX8_restart (Cond.code yX8_restart prog_10_method_3_code 4 (none : Option FieldType)) 4 RX8 3 := ⟨_, _, rfl, h_X8_restart, TT_4 110 rfl rfl, TT_4 16 rfl rfl, TT_4 17 rfl rfl, TT_1 6 rfl rfl, ne_X8, pd_15, by decide⟩
set_option maxRecDepth 20000 in
theorem m_X9_3 : Cond.methodLink RX9 3 Lib.objectInit ∈ TT := TT_5 165 rfl rfl
set_option maxRecDepth 20000 in
theorem m_X9_46 : SK RX9 46 yX9_indexOf (Cond.code yX9_indexOf prog_11_method_3_code 3 (Option.some FieldType.int)) 3 3 := ⟨_, _, rfl, h_X9_indexOf, TT_5 183 rfl rfl, TT_5 184 rfl rfl, TT_1 28 rfl rfl, ne_X9, pd_14, by decide⟩
set_option maxRecDepth 20000 in
theorem m_X9_50 : VK RX9 50 yX9_sum (Cond.code yX9_sum prog_11_method_4_code 10 (Option.some FieldType.int)) 10 RX9 4 := ⟨_, _, rfl, h_X9_sum, TT_5 186 rfl rfl, TT_5 188 rfl rfl, TT_priv 43 rfl rfl, TT_1 28 rfl rfl, ne_X9, pd_66, by decide⟩
set_option maxRecDepth 20000 in
theorem m_X10_3 : Cond.methodLink RX10 3 Lib.objectInit ∈ TT := TT_1 104 rfl rfl
set_option maxRecDepth 20000 in
theorem m_X10_11 : IK RX10 11 yX0_init (Cond.code yX0_init prog_2_method_1_code 2 (none : Option FieldType)) 2 0 := ⟨_, rfl, h_X0_init, Or.inl (TT_1 106 rfl rfl), TT_1 71 rfl rfl, TT_1 3 rfl rfl, rfl, ne_X0, pd_2, by decide⟩
set_option maxRecDepth 20000 in
theorem m_X10_20 : IK RX10 20 yX6_init (Cond.code yX6_init prog_8_method_1_code 1 (none : Option FieldType)) 1 0 := ⟨_, rfl, h_X6_init, Or.inr ⟨"ChaseCourt", List.mem_of_getElem? (i := 2) rfl⟩, TT_1 110 rfl rfl, TT_1 5 rfl rfl, rfl, ne_X6, pd_2, by decide⟩
set_option maxRecDepth 20000 in
theorem m_X10_27 : IK RX10 27 yX8_init (Cond.code yX8_init prog_10_method_1_code 1 (none : Option FieldType)) 1 0 := ⟨_, rfl, h_X8_init, Or.inr ⟨"ChaseCourt", List.mem_of_getElem? (i := 3) rfl⟩, TT_1 130 rfl rfl, TT_1 6 rfl rfl, rfl, ne_X8, pd_2, by decide⟩
set_option maxRecDepth 20000 in
theorem m_X10_32 : VK RX10 32 yX0_takeFrom (Cond.code yX0_takeFrom prog_2_method_2_code 2 (none : Option FieldType)) 2 RX0 1 := ⟨_, _, rfl, h_X0_takeFrom, TT_2 35 rfl rfl, TT_2 36 rfl rfl, TT_2 37 rfl rfl, TT_1 3 rfl rfl, ne_X0, pd_39, by decide⟩
set_option maxRecDepth 20000 in
theorem m_X10_36 : VK RX10 36 yX6_takeFrom (Cond.code yX6_takeFrom prog_8_method_2_code 3 (none : Option FieldType)) 3 RX6 1 := ⟨_, _, rfl, h_X6_takeFrom, TT_2 42 rfl rfl, TT_2 43 rfl rfl, TT_2 44 rfl rfl, TT_1 5 rfl rfl, ne_X6, pd_41, by decide⟩
set_option maxRecDepth 20000 in
theorem m_X10_39 : VK RX10 39 yX8_takeFrom (Cond.code yX8_takeFrom prog_10_method_2_code 2 (none : Option FieldType)) 2 RX8 1 := ⟨_, _, rfl, h_X8_takeFrom, TT_2 46 rfl rfl, TT_2 47 rfl rfl, TT_2 48 rfl rfl, TT_1 6 rfl rfl, ne_X8, pd_45, by decide⟩
set_option maxRecDepth 20000 in
theorem m_X10_46 : VK RX10 46 yX6_styleOf (Cond.code yX6_styleOf prog_8_method_4_code 4 (Option.some FieldType.int)) 4 RX6 2 := ⟨_, _, rfl, h_X6_styleOf, TT_5 56 rfl rfl, TT_3 226 rfl rfl, TT_3 227 rfl rfl, TT_1 5 rfl rfl, ne_X6, pd_35, by decide⟩
set_option maxRecDepth 20000 in
theorem m_L_7 : VK RL 7 yX11_court (Cond.code yX11_court prog_1_method_5_code 1 (Option.some FieldType.int)) 1 RX11 0 := ⟨_, _, rfl, h_X11_court, TT_2 63 rfl rfl, TT_2 64 rfl rfl, TT_2 65 rfl rfl, TT_1 1 rfl rfl, ne_X11, pd_1, by decide⟩
set_option maxRecDepth 20000 in
theorem m_L_17 : VK RL 17 yX11_rule (Cond.code yX11_rule prog_1_method_6_code 1 (Option.some FieldType.int)) 1 RX11 0 := ⟨_, _, rfl, h_X11_rule, TT_3 58 rfl rfl, TT_3 59 rfl rfl, TT_3 60 rfl rfl, TT_1 1 rfl rfl, ne_X11, pd_1, by decide⟩
set_option maxRecDepth 20000 in
theorem m_L_20 : VK RL 20 yX11_look (Cond.code yX11_look prog_1_method_8_code 4 (Option.some FieldType.int)) 4 RX11 3 := ⟨_, _, rfl, h_X11_look, TT_3 167 rfl rfl, TT_3 168 rfl rfl, TT_3 169 rfl rfl, TT_1 1 rfl rfl, ne_X11, pd_14, by decide⟩
set_option maxRecDepth 20000 in
theorem m_L_28 : VK RL 28 yX11_plays (Cond.code yX11_plays prog_1_method_9_code 4 (Option.some FieldType.int)) 4 RX11 2 := ⟨_, _, rfl, h_X11_plays, TT_3 209 rfl rfl, TT_3 210 rfl rfl, TT_3 211 rfl rfl, TT_1 1 rfl rfl, ne_X11, pd_10, by decide⟩
set_option maxRecDepth 20000 in
theorem m_L_32 : VK RL 32 yX11_style (Cond.code yX11_style prog_1_method_10_code 2 (Option.some FieldType.int)) 2 RX11 1 := ⟨_, _, rfl, h_X11_style, TT_3 221 rfl rfl, TT_3 222 rfl rfl, TT_3 223 rfl rfl, TT_1 1 rfl rfl, ne_X11, pd_6, by decide⟩
set_option maxRecDepth 20000 in
theorem m_L_36 : VK RL 36 yX11_score (Cond.code yX11_score prog_1_method_11_code 6 (none : Option FieldType)) 6 RX11 3 := ⟨_, _, rfl, h_X11_score, TT_4 10 rfl rfl, TT_4 11 rfl rfl, TT_4 12 rfl rfl, TT_1 1 rfl rfl, ne_X11, pd_15, by decide⟩
set_option maxRecDepth 20000 in
theorem m_L_40 : VK RL 40 yX11_games (Cond.code yX11_games prog_1_method_12_code 3 (none : Option FieldType)) 3 RX11 2 := ⟨_, _, rfl, h_X11_games, TT_4 22 rfl rfl, TT_4 23 rfl rfl, TT_4 24 rfl rfl, TT_1 1 rfl rfl, ne_X11, pd_12, by decide⟩
set_option maxRecDepth 20000 in
theorem m_L_44 : VK RL 44 yX11_begin (Cond.code yX11_begin prog_1_method_13_code 3 (none : Option FieldType)) 3 RX11 2 := ⟨_, _, rfl, h_X11_begin, TT_4 30 rfl rfl, TT_4 31 rfl rfl, TT_4 32 rfl rfl, TT_1 1 rfl rfl, ne_X11, pd_12, by decide⟩
set_option maxRecDepth 20000 in
theorem m_L_47 : VK RL 47 yX11_stands (Cond.code yX11_stands prog_1_method_14_code 2 (Option.some FieldType.int)) 2 RX11 1 := ⟨_, _, rfl, h_X11_stands, TT_4 38 rfl rfl, TT_4 39 rfl rfl, TT_4 40 rfl rfl, TT_1 1 rfl rfl, ne_X11, pd_6, by decide⟩
set_option maxRecDepth 20000 in
theorem m_L_50 : VK RL 50 yX11_rally (Cond.code yX11_rally prog_1_method_15_code 3 (Option.some FieldType.int)) 3 RX11 2 := ⟨_, _, rfl, h_X11_rally, TT_4 54 rfl rfl, TT_4 55 rfl rfl, TT_4 56 rfl rfl, TT_1 1 rfl rfl, ne_X11, pd_10, by decide⟩
set_option maxRecDepth 20000 in
theorem m_L_55 : VK RL 55 yX11_bisque (Cond.code yX11_bisque prog_1_method_16_code 2 (Option.some FieldType.boolean)) 2 RX11 1 := ⟨_, _, rfl, h_X11_bisque, TT_4 122 rfl rfl, TT_4 123 rfl rfl, TT_4 124 rfl rfl, TT_1 1 rfl rfl, ne_X11, pd_9, by decide⟩
set_option maxRecDepth 20000 in
theorem m_L_59 : VK RL 59 yX11_chance (Cond.code yX11_chance prog_1_method_17_code 5 (Option.some FieldType.int)) 5 RX11 2 := ⟨_, _, rfl, h_X11_chance, TT_4 133 rfl rfl, TT_4 134 rfl rfl, TT_4 135 rfl rfl, TT_1 1 rfl rfl, ne_X11, pd_10, by decide⟩
set_option maxRecDepth 20000 in
theorem m_L_62 : VK RL 62 yX11_best (Cond.code yX11_best prog_1_method_18_code 6 (Option.some FieldType.int)) 6 RX11 3 := ⟨_, _, rfl, h_X11_best, TT_5 117 rfl rfl, TT_5 118 rfl rfl, TT_5 119 rfl rfl, TT_1 1 rfl rfl, ne_X11, pd_31, by decide⟩
set_option maxRecDepth 20000 in
theorem m_L_66 : VK RL 66 yX11_saves (Cond.code yX11_saves prog_1_method_19_code 7 (Option.some FieldType.int)) 7 RX11 3 := ⟨_, _, rfl, h_X11_saves, TT_5 128 rfl rfl, TT_5 129 rfl rfl, TT_5 130 rfl rfl, TT_1 1 rfl rfl, ne_X11, pd_14, by decide⟩
set_option maxRecDepth 20000 in
theorem m_L_69 : VK RL 69 yX11_worth (Cond.code yX11_worth prog_1_method_20_code 7 (Option.some FieldType.int)) 7 RX11 3 := ⟨_, _, rfl, h_X11_worth, TT_5 143 rfl rfl, TT_5 144 rfl rfl, TT_5 145 rfl rfl, TT_1 1 rfl rfl, ne_X11, pd_14, by decide⟩
set_option maxRecDepth 20000 in
theorem m_L_72 : VK RL 72 yX11_set (Cond.code yX11_set prog_1_method_21_code 9 (Option.some FieldType.int)) 9 RX11 2 := ⟨_, _, rfl, h_X11_set, TT_5 152 rfl rfl, TT_5 153 rfl rfl, TT_5 154 rfl rfl, TT_1 1 rfl rfl, ne_X11, pd_10, by decide⟩
set_option maxRecDepth 20000 in
theorem m_L_75 : VK RL 75 yX11_ways (Cond.code yX11_ways prog_1_method_22_code 7 (Option.some FieldType.int)) 7 RX11 4 := ⟨_, _, rfl, h_X11_ways, TT_5 194 rfl rfl, TT_5 195 rfl rfl, TT_5 196 rfl rfl, TT_1 1 rfl rfl, ne_X11, pd_17, by decide⟩
set_option maxRecDepth 20000 in
theorem m_L_79 : VK RL 79 yX11_even (Cond.code yX11_even prog_1_method_23_code 11 (Option.some FieldType.int)) 11 RX11 2 := ⟨_, _, rfl, h_X11_even, TT_5 201 rfl rfl, TT_5 202 rfl rfl, TT_5 203 rfl rfl, TT_1 1 rfl rfl, ne_X11, pd_10, by decide⟩
set_option maxRecDepth 20000 in
theorem m_L_82 : VK RL 82 yX11_log (Cond.code yX11_log prog_1_method_24_code 4 (Option.some FieldType.int)) 4 RX11 1 := ⟨_, _, rfl, h_X11_log, TT_5 216 rfl rfl, TT_5 217 rfl rfl, TT_5 218 rfl rfl, TT_1 1 rfl rfl, ne_X11, pd_6, by decide⟩
set_option maxRecDepth 20000 in
theorem m_L_85 : VK RL 85 yX11_mends (Cond.code yX11_mends prog_1_method_25_code 8 (Option.some FieldType.long)) 8 RX11 5 := ⟨_, _, rfl, h_X11_mends, TT_5 231 rfl rfl, TT_5 232 rfl rfl, TT_5 233 rfl rfl, TT_1 1 rfl rfl, ne_X11, pd_22, by decide⟩
set_option maxRecDepth 20000 in
theorem m_L_89 : VK RL 89 yX11_play (Cond.code yX11_play prog_1_method_26_code 7 (Option.some FieldType.int)) 7 RX11 3 := ⟨_, _, rfl, h_X11_play, TT_6 98 rfl rfl, TT_6 99 rfl rfl, TT_6 100 rfl rfl, TT_1 1 rfl rfl, ne_X11, pd_14, by decide⟩
set_option maxRecDepth 20000 in
theorem m_L_92 : IK RL 92 yX11_init (Cond.code yX11_init prog_1_method_1_code 1 (none : Option FieldType)) 1 0 := ⟨_, rfl, h_X11_init, Or.inl (TT_1 32 rfl rfl), TT_1 33 rfl rfl, TT_1 1 rfl rfl, rfl, ne_X11, pd_2, by decide⟩
set_option maxRecDepth 20000 in
theorem m_L_95 : IK RL 95 yX12_init (Cond.code yX12_init prog_14_method_1_code 2 (none : Option FieldType)) 2 0 := ⟨_, rfl, h_X12_init, Or.inl (TT_6 111 rfl rfl), TT_6 112 rfl rfl, TT_1 7 rfl rfl, rfl, ne_X12, pd_2, by decide⟩
set_option maxRecDepth 20000 in
theorem m_L_96 : VK RL 96 yX11_feed (Cond.code yX11_feed prog_1_method_2_code 6 (Option.some FieldType.int)) 6 RX11 5 := ⟨_, _, rfl, h_X11_feed, TT_2 11 rfl rfl, TT_2 12 rfl rfl, TT_2 13 rfl rfl, TT_1 1 rfl rfl, ne_X11, pd_20, by decide⟩
set_option maxRecDepth 20000 in
theorem m_L_100 : VK RL 100 yX12_feed (Cond.code yX12_feed prog_14_method_5_code 8 (Option.some FieldType.int)) 8 RX12 5 := ⟨_, _, rfl, h_X12_feed, TT_6 217 rfl rfl, TT_6 218 rfl rfl, TT_6 219 rfl rfl, TT_1 7 rfl rfl, ne_X12, pd_20, by decide⟩
set_option maxRecDepth 20000 in
theorem m_L_101 : VK RL 101 yX11_end (Cond.code yX11_end prog_1_method_4_code 2 (Option.some FieldType.boolean)) 2 RX11 1 := ⟨_, _, rfl, h_X11_end, TT_2 19 rfl rfl, TT_2 20 rfl rfl, TT_2 21 rfl rfl, TT_1 1 rfl rfl, ne_X11, pd_9, by decide⟩
set_option maxRecDepth 20000 in
theorem m_L_104 : VK RL 104 yX12_end (Cond.code yX12_end prog_14_method_6_code 2 (Option.some FieldType.boolean)) 2 RX12 1 := ⟨_, _, rfl, h_X12_end, TT_6 221 rfl rfl, TT_6 222 rfl rfl, TT_6 223 rfl rfl, TT_1 7 rfl rfl, ne_X12, pd_9, by decide⟩
set_option maxRecDepth 20000 in
theorem m_L_105 : SKW RL 105 yL_court (Cond.codeWith yL_court method_3_code 3 (Option.some FieldType.int) [((0 : Nat), (8 : Nat), (11 : Nat), (13 : Nat)), ((0 : Nat), (8 : Nat), (14 : Nat), (15 : Nat))]) 3 2 := ⟨_, _, _, rfl, h_L_court, TT_2 58 rfl rfl, TT_2 59 rfl rfl, TT_1 0 rfl rfl, ne_L, pd_56, by decide⟩
set_option maxRecDepth 20000 in
theorem m_L_110 : VK RL 110 yX12_court (Cond.code yX12_court prog_14_method_15_code 4 (Option.some FieldType.int)) 4 RX12 0 := ⟨_, _, rfl, h_X12_court, TT_6 228 rfl rfl, TT_6 229 rfl rfl, TT_6 230 rfl rfl, TT_1 7 rfl rfl, ne_X12, pd_1, by decide⟩
set_option maxRecDepth 20000 in
theorem m_L_111 : VK RL 111 yX12_thrown (Cond.code yX12_thrown prog_14_method_2_code 1 (Option.some FieldType.int)) 1 RX12 0 := ⟨_, _, rfl, h_X12_thrown, TT_6 213 rfl rfl, TT_6 214 rfl rfl, TT_6 215 rfl rfl, TT_1 7 rfl rfl, ne_X12, pd_1, by decide⟩
set_option maxRecDepth 20000 in
theorem m_L_114 : SKW RL 114 yL_rule (Cond.codeWith yL_rule method_4_code 3 (Option.some FieldType.int) [((0 : Nat), (8 : Nat), (11 : Nat), (13 : Nat)), ((0 : Nat), (8 : Nat), (14 : Nat), (15 : Nat))]) 3 2 := ⟨_, _, _, rfl, h_L_rule, TT_3 55 rfl rfl, TT_3 56 rfl rfl, TT_1 0 rfl rfl, ne_L, pd_56, by decide⟩
set_option maxRecDepth 20000 in
theorem m_L_116 : VK RL 116 yX12_rule (Cond.code yX12_rule prog_14_method_23_code 4 (Option.some FieldType.int)) 4 RX12 0 := ⟨_, _, rfl, h_X12_rule, TT_7 72 rfl rfl, TT_7 73 rfl rfl, TT_7 74 rfl rfl, TT_1 7 rfl rfl, ne_X12, pd_1, by decide⟩
set_option maxRecDepth 20000 in
theorem m_L_117 : VK RL 117 yX11_fault (Cond.code yX11_fault prog_1_method_7_code 1 (Option.some FieldType.int)) 1 RX11 0 := ⟨_, _, rfl, h_X11_fault, TT_2 23 rfl rfl, TT_2 24 rfl rfl, TT_2 25 rfl rfl, TT_1 1 rfl rfl, ne_X11, pd_1, by decide⟩
set_option maxRecDepth 20000 in
theorem m_L_120 : VK RL 120 yX12_fault (Cond.code yX12_fault prog_14_method_24_code 1 (Option.some FieldType.int)) 1 RX12 0 := ⟨_, _, rfl, h_X12_fault, TT_7 76 rfl rfl, TT_7 77 rfl rfl, TT_7 78 rfl rfl, TT_1 7 rfl rfl, ne_X12, pd_1, by decide⟩
set_option maxRecDepth 20000 in
theorem m_L_121 : SKW RL 121 yL_look (Cond.codeWith yL_look method_5_code 6 (Option.some FieldType.int) [((0 : Nat), (12 : Nat), (15 : Nat), (24 : Nat)), ((0 : Nat), (12 : Nat), (19 : Nat), (26 : Nat))]) 6 5 := ⟨_, _, _, rfl, h_L_look, TT_3 162 rfl rfl, TT_3 163 rfl rfl, TT_1 0 rfl rfl, ne_L, pd_52, by decide⟩
set_option maxRecDepth 20000 in
theorem m_L_124 : VK RL 124 yX12_look (Cond.code yX12_look prog_14_method_25_code 4 (Option.some FieldType.int)) 4 RX12 3 := ⟨_, _, rfl, h_X12_look, TT_7 80 rfl rfl, TT_7 81 rfl rfl, TT_7 82 rfl rfl, TT_1 7 rfl rfl, ne_X12, pd_14, by decide⟩
set_option maxRecDepth 20000 in
theorem m_L_125 : SKW RL 125 yL_plays (Cond.codeWith yL_plays method_6_code 5 (Option.some FieldType.int) [((0 : Nat), (10 : Nat), (13 : Nat), (24 : Nat))]) 5 4 := ⟨_, _, _, rfl, h_L_plays, TT_3 206 rfl rfl, TT_3 207 rfl rfl, TT_1 0 rfl rfl, ne_L, pd_54, by decide⟩
set_option maxRecDepth 20000 in
theorem m_L_128 : VK RL 128 yX12_plays (Cond.code yX12_plays prog_14_method_26_code 4 (Option.some FieldType.int)) 4 RX12 2 := ⟨_, _, rfl, h_X12_plays, TT_7 84 rfl rfl, TT_7 85 rfl rfl, TT_7 86 rfl rfl, TT_1 7 rfl rfl, ne_X12, pd_10, by decide⟩
set_option maxRecDepth 20000 in
theorem m_L_129 : SKW RL 129 yL_style (Cond.codeWith yL_style method_7_code 4 (Option.some FieldType.int) [((0 : Nat), (9 : Nat), (12 : Nat), (24 : Nat))]) 4 3 := ⟨_, _, _, rfl, h_L_style, TT_3 218 rfl rfl, TT_3 219 rfl rfl, TT_1 0 rfl rfl, ne_L, pd_55, by decide⟩
set_option maxRecDepth 20000 in
theorem m_L_132 : VK RL 132 yX12_style (Cond.code yX12_style prog_14_method_30_code 2 (Option.some FieldType.int)) 2 RX12 1 := ⟨_, _, rfl, h_X12_style, TT_7 91 rfl rfl, TT_7 92 rfl rfl, TT_7 93 rfl rfl, TT_1 7 rfl rfl, ne_X12, pd_6, by decide⟩
set_option maxRecDepth 20000 in
theorem m_L_133 : SKW RL 133 yL_score (Cond.codeWith yL_score method_8_code 5 (Option.some FieldType.int) [((0 : Nat), (7 : Nat), (10 : Nat), (24 : Nat)), ((0 : Nat), (7 : Nat), (14 : Nat), (13 : Nat))]) 5 4 := ⟨_, _, _, rfl, h_L_score, TT_4 7 rfl rfl, TT_4 8 rfl rfl, TT_1 0 rfl rfl, ne_L, pd_49, by decide⟩
set_option maxRecDepth 20000 in
theorem m_L_136 : VK RL 136 yX12_score (Cond.code yX12_score prog_14_method_31_code 5 (none : Option FieldType)) 5 RX12 3 := ⟨_, _, rfl, h_X12_score, TT_7 103 rfl rfl, TT_7 104 rfl rfl, TT_7 105 rfl rfl, TT_1 7 rfl rfl, ne_X12, pd_15, by decide⟩
set_option maxRecDepth 20000 in
theorem m_L_137 : SKW RL 137 yL_games (Cond.codeWith yL_games method_9_code 4 (Option.some FieldType.int) [((0 : Nat), (6 : Nat), (9 : Nat), (13 : Nat))]) 4 3 := ⟨_, _, _, rfl, h_L_games, TT_4 19 rfl rfl, TT_4 20 rfl rfl, TT_1 0 rfl rfl, ne_L, pd_48, by decide⟩
set_option maxRecDepth 20000 in
theorem m_L_140 : VK RL 140 yX12_games (Cond.code yX12_games prog_14_method_32_code 3 (none : Option FieldType)) 3 RX12 2 := ⟨_, _, rfl, h_X12_games, TT_7 107 rfl rfl, TT_7 108 rfl rfl, TT_7 109 rfl rfl, TT_1 7 rfl rfl, ne_X12, pd_12, by decide⟩
set_option maxRecDepth 20000 in
theorem m_L_141 : SKW RL 141 yL_begin (Cond.codeWith yL_begin method_10_code 4 (Option.some FieldType.int) [((0 : Nat), (6 : Nat), (9 : Nat), (13 : Nat))]) 4 3 := ⟨_, _, _, rfl, h_L_begin, TT_4 27 rfl rfl, TT_4 28 rfl rfl, TT_1 0 rfl rfl, ne_L, pd_48, by decide⟩
set_option maxRecDepth 20000 in
theorem m_L_143 : VK RL 143 yX12_begin (Cond.code yX12_begin prog_14_method_33_code 3 (none : Option FieldType)) 3 RX12 2 := ⟨_, _, rfl, h_X12_begin, TT_7 111 rfl rfl, TT_7 112 rfl rfl, TT_7 113 rfl rfl, TT_1 7 rfl rfl, ne_X12, pd_12, by decide⟩
set_option maxRecDepth 20000 in
theorem m_L_144 : SKW RL 144 yL_stands (Cond.codeWith yL_stands method_11_code 4 (Option.some FieldType.int) [((0 : Nat), (9 : Nat), (12 : Nat), (26 : Nat))]) 4 3 := ⟨_, _, _, rfl, h_L_stands, TT_4 35 rfl rfl, TT_4 36 rfl rfl, TT_1 0 rfl rfl, ne_L, pd_55, by decide⟩
set_option maxRecDepth 20000 in
theorem m_L_146 : VK RL 146 yX12_stands (Cond.code yX12_stands prog_14_method_37_code 2 (Option.some FieldType.int)) 2 RX12 1 := ⟨_, _, rfl, h_X12_stands, TT_7 115 rfl rfl, TT_7 116 rfl rfl, TT_7 117 rfl rfl, TT_1 7 rfl rfl, ne_X12, pd_6, by decide⟩
set_option maxRecDepth 20000 in
theorem m_L_147 : SKW RL 147 yL_rally (Cond.codeWith yL_rally method_12_code 5 (Option.some FieldType.int) [((0 : Nat), (10 : Nat), (13 : Nat), (24 : Nat)), ((0 : Nat), (10 : Nat), (17 : Nat), (13 : Nat)), ((0 : Nat), (10 : Nat), (21 : Nat), (53 : Nat))]) 5 4 := ⟨_, _, _, rfl, h_L_rally, TT_4 50 rfl rfl, TT_4 51 rfl rfl, TT_1 0 rfl rfl, ne_L, pd_54, by decide⟩
set_option maxRecDepth 20000 in
theorem m_L_149 : VK RL 149 yX12_rally (Cond.code yX12_rally prog_14_method_42_code 4 (Option.some FieldType.int)) 4 RX12 2 := ⟨_, _, rfl, h_X12_rally, TT_7 127 rfl rfl, TT_7 128 rfl rfl, TT_7 129 rfl rfl, TT_1 7 rfl rfl, ne_X12, pd_10, by decide⟩
set_option maxRecDepth 20000 in
theorem m_L_150 : SKW RL 150 yL_bisque (Cond.codeWith yL_bisque method_13_code 4 (Option.some FieldType.int) [((0 : Nat), (16 : Nat), (19 : Nat), (24 : Nat)), ((0 : Nat), (16 : Nat), (22 : Nat), (53 : Nat))]) 4 3 := ⟨_, _, _, rfl, h_L_bisque, TT_4 119 rfl rfl, TT_4 120 rfl rfl, TT_1 0 rfl rfl, ne_L, pd_55, by decide⟩
set_option maxRecDepth 20000 in
theorem m_L_152 : VK RL 152 yX12_bisque (Cond.code yX12_bisque prog_14_method_44_code 2 (Option.some FieldType.boolean)) 2 RX12 1 := ⟨_, _, rfl, h_X12_bisque, TT_7 155 rfl rfl, TT_7 156 rfl rfl, TT_7 157 rfl rfl, TT_1 7 rfl rfl, ne_X12, pd_9, by decide⟩
set_option maxRecDepth 20000 in
theorem m_L_153 : SKW RL 153 yL_chance (Cond.codeWith yL_chance method_14_code 5 (Option.some FieldType.int) [((0 : Nat), (10 : Nat), (13 : Nat), (24 : Nat)), ((0 : Nat), (10 : Nat), (17 : Nat), (13 : Nat)), ((0 : Nat), (10 : Nat), (21 : Nat), (53 : Nat))]) 5 4 := ⟨_, _, _, rfl, h_L_chance, TT_4 130 rfl rfl, TT_4 131 rfl rfl, TT_1 0 rfl rfl, ne_L, pd_54, by decide⟩
set_option maxRecDepth 20000 in
theorem m_L_155 : VK RL 155 yX12_chance (Cond.code yX12_chance prog_14_method_54_code 3 (Option.some FieldType.int)) 3 RX12 2 := ⟨_, _, rfl, h_X12_chance, TT_7 163 rfl rfl, TT_7 164 rfl rfl, TT_7 165 rfl rfl, TT_1 7 rfl rfl, ne_X12, pd_10, by decide⟩
set_option maxRecDepth 20000 in
theorem m_L_156 : SKW RL 156 yL_best (Cond.codeWith yL_best method_15_code 6 (Option.some FieldType.int) [((0 : Nat), (12 : Nat), (15 : Nat), (24 : Nat)), ((0 : Nat), (12 : Nat), (19 : Nat), (13 : Nat)), ((0 : Nat), (12 : Nat), (23 : Nat), (53 : Nat))]) 6 5 := ⟨_, _, _, rfl, h_L_best, TT_5 114 rfl rfl, TT_5 115 rfl rfl, TT_1 0 rfl rfl, ne_L, pd_53, by decide⟩
set_option maxRecDepth 20000 in
theorem m_L_159 : VK RL 159 yX12_best (Cond.code yX12_best prog_14_method_55_code 12 (Option.some FieldType.int)) 12 RX12 3 := ⟨_, _, rfl, h_X12_best, TT_7 204 rfl rfl, TT_7 205 rfl rfl, TT_7 206 rfl rfl, TT_1 7 rfl rfl, ne_X12, pd_31, by decide⟩
set_option maxRecDepth 20000 in
theorem m_L_160 : SKW RL 160 yL_saves (Cond.codeWith yL_saves method_16_code 6 (Option.some FieldType.int) [((0 : Nat), (12 : Nat), (15 : Nat), (24 : Nat)), ((0 : Nat), (12 : Nat), (19 : Nat), (13 : Nat)), ((0 : Nat), (12 : Nat), (23 : Nat), (53 : Nat)), ((0 : Nat), (12 : Nat), (27 : Nat), (26 : Nat))]) 6 5 := ⟨_, _, _, rfl, h_L_saves, TT_5 125 rfl rfl, TT_5 126 rfl rfl, TT_1 0 rfl rfl, ne_L, pd_52, by decide⟩
set_option maxRecDepth 20000 in
theorem m_L_162 : VK RL 162 yX12_saves (Cond.code yX12_saves prog_14_method_56_code 10 (Option.some FieldType.int)) 10 RX12 3 := ⟨_, _, rfl, h_X12_saves, TT_7 208 rfl rfl, TT_7 209 rfl rfl, TT_7 210 rfl rfl, TT_1 7 rfl rfl, ne_X12, pd_14, by decide⟩
set_option maxRecDepth 20000 in
theorem m_L_163 : SKW RL 163 yL_worth (Cond.codeWith yL_worth method_17_code 6 (Option.some FieldType.int) [((0 : Nat), (12 : Nat), (15 : Nat), (24 : Nat)), ((0 : Nat), (12 : Nat), (19 : Nat), (13 : Nat)), ((0 : Nat), (12 : Nat), (23 : Nat), (53 : Nat))]) 6 5 := ⟨_, _, _, rfl, h_L_worth, TT_5 140 rfl rfl, TT_5 141 rfl rfl, TT_1 0 rfl rfl, ne_L, pd_52, by decide⟩
set_option maxRecDepth 20000 in
theorem m_L_165 : VK RL 165 yX12_worth (Cond.code yX12_worth prog_14_method_57_code 5 (Option.some FieldType.int)) 5 RX12 3 := ⟨_, _, rfl, h_X12_worth, TT_7 213 rfl rfl, TT_7 214 rfl rfl, TT_7 215 rfl rfl, TT_1 7 rfl rfl, ne_X12, pd_14, by decide⟩
set_option maxRecDepth 20000 in
theorem m_L_166 : SKW RL 166 yL_set (Cond.codeWith yL_set method_18_code 5 (Option.some FieldType.int) [((0 : Nat), (10 : Nat), (13 : Nat), (24 : Nat)), ((0 : Nat), (10 : Nat), (17 : Nat), (13 : Nat)), ((0 : Nat), (10 : Nat), (21 : Nat), (53 : Nat))]) 5 4 := ⟨_, _, _, rfl, h_L_set, TT_5 149 rfl rfl, TT_5 150 rfl rfl, TT_1 0 rfl rfl, ne_L, pd_54, by decide⟩
set_option maxRecDepth 20000 in
theorem m_L_168 : VK RL 168 yX12_set (Cond.code yX12_set prog_14_method_60_code 9 (Option.some FieldType.int)) 9 RX12 2 := ⟨_, _, rfl, h_X12_set, TT_7 218 rfl rfl, TT_7 219 rfl rfl, TT_7 220 rfl rfl, TT_1 7 rfl rfl, ne_X12, pd_10, by decide⟩
set_option maxRecDepth 20000 in
theorem m_L_169 : SKW RL 169 yL_ways (Cond.codeWith yL_ways method_19_code 7 (Option.some FieldType.int) [((0 : Nat), (14 : Nat), (17 : Nat), (24 : Nat)), ((0 : Nat), (14 : Nat), (21 : Nat), (13 : Nat))]) 7 6 := ⟨_, _, _, rfl, h_L_ways, TT_5 191 rfl rfl, TT_5 192 rfl rfl, TT_1 0 rfl rfl, ne_L, pd_51, by decide⟩
set_option maxRecDepth 20000 in
theorem m_L_172 : VK RL 172 yX12_ways (Cond.code yX12_ways prog_14_method_61_code 5 (Option.some FieldType.int)) 5 RX12 4 := ⟨_, _, rfl, h_X12_ways, TT_7 230 rfl rfl, TT_7 231 rfl rfl, TT_7 232 rfl rfl, TT_1 7 rfl rfl, ne_X12, pd_17, by decide⟩
set_option maxRecDepth 20000 in
theorem m_L_173 : SKW RL 173 yL_even (Cond.codeWith yL_even method_20_code 5 (Option.some FieldType.int) [((0 : Nat), (10 : Nat), (13 : Nat), (13 : Nat))]) 5 4 := ⟨_, _, _, rfl, h_L_even, TT_5 198 rfl rfl, TT_5 199 rfl rfl, TT_1 0 rfl rfl, ne_L, pd_54, by decide⟩
set_option maxRecDepth 20000 in
theorem m_L_175 : VK RL 175 yX12_even (Cond.code yX12_even prog_14_method_62_code 7 (Option.some FieldType.int)) 7 RX12 2 := ⟨_, _, rfl, h_X12_even, TT_7 234 rfl rfl, TT_7 235 rfl rfl, TT_7 236 rfl rfl, TT_1 7 rfl rfl, ne_X12, pd_10, by decide⟩
set_option maxRecDepth 20000 in
theorem m_L_176 : SKW RL 176 yL_log (Cond.codeWith yL_log method_21_code 4 (Option.some FieldType.int) [((0 : Nat), (9 : Nat), (12 : Nat), (13 : Nat)), ((0 : Nat), (9 : Nat), (15 : Nat), (53 : Nat)), ((0 : Nat), (9 : Nat), (18 : Nat), (26 : Nat))]) 4 3 := ⟨_, _, _, rfl, h_L_log, TT_5 213 rfl rfl, TT_5 214 rfl rfl, TT_1 0 rfl rfl, ne_L, pd_55, by decide⟩
set_option maxRecDepth 20000 in
theorem m_L_178 : VK RL 178 yX12_log (Cond.code yX12_log prog_14_method_65_code 4 (Option.some FieldType.int)) 4 RX12 1 := ⟨_, _, rfl, h_X12_log, TT_8 0 rfl rfl, TT_8 1 rfl rfl, TT_8 2 rfl rfl, TT_1 7 rfl rfl, ne_X12, pd_6, by decide⟩
set_option maxRecDepth 20000 in
theorem m_L_179 : SKW RL 179 yL_mends (Cond.codeWith yL_mends method_22_code 8 (Option.some FieldType.int) [((0 : Nat), (15 : Nat), (18 : Nat), (13 : Nat))]) 8 7 := ⟨_, _, _, rfl, h_L_mends, TT_5 228 rfl rfl, TT_5 229 rfl rfl, TT_1 0 rfl rfl, ne_L, pd_50, by decide⟩
set_option maxRecDepth 20000 in
theorem m_L_182 : VK RL 182 yX12_mends (Cond.code yX12_mends prog_14_method_69_code 13 (Option.some FieldType.long)) 13 RX12 5 := ⟨_, _, rfl, h_X12_mends, TT_8 12 rfl rfl, TT_8 13 rfl rfl, TT_8 14 rfl rfl, TT_1 7 rfl rfl, ne_X12, pd_22, by decide⟩
set_option maxRecDepth 20000 in
theorem m_L_183 : SKW RL 183 yL_play (Cond.codeWith yL_play method_23_code 6 (Option.some FieldType.int) [((0 : Nat), (12 : Nat), (15 : Nat), (13 : Nat)), ((0 : Nat), (12 : Nat), (19 : Nat), (26 : Nat))]) 6 5 := ⟨_, _, _, rfl, h_L_play, TT_6 95 rfl rfl, TT_6 96 rfl rfl, TT_1 0 rfl rfl, ne_L, pd_52, by decide⟩
set_option maxRecDepth 20000 in
theorem m_L_185 : VK RL 185 yX12_play (Cond.code yX12_play prog_14_method_70_code 11 (Option.some FieldType.int)) 11 RX12 3 := ⟨_, _, rfl, h_X12_play, TT_8 29 rfl rfl, TT_8 30 rfl rfl, TT_8 31 rfl rfl, TT_1 7 rfl rfl, ne_X12, pd_14, by decide⟩
set_option maxRecDepth 20000 in
theorem m_L_186 : VK RL 186 yX11_image (Cond.code yX11_image prog_1_method_27_code 1 (none : Option FieldType)) 1 RX11 0 := ⟨_, _, rfl, h_X11_image, TT_2 27 rfl rfl, TT_2 28 rfl rfl, TT_2 29 rfl rfl, TT_1 1 rfl rfl, ne_X11, pd_2, by decide⟩
set_option maxRecDepth 20000 in
theorem m_L_189 : VK RL 189 yX12_image (Cond.code yX12_image prog_14_method_71_code 2 (none : Option FieldType)) 2 RX12 0 := ⟨_, _, rfl, h_X12_image, TT_8 34 rfl rfl, TT_8 35 rfl rfl, TT_8 36 rfl rfl, TT_1 7 rfl rfl, ne_X12, pd_2, by decide⟩
set_option maxRecDepth 20000 in
theorem m_L_190 : VK RL 190 yX11_back (Cond.code yX11_back prog_1_method_28_code 1 (Option.some FieldType.boolean)) 1 RX11 0 := ⟨_, _, rfl, h_X11_back, TT_2 50 rfl rfl, TT_2 51 rfl rfl, TT_2 52 rfl rfl, TT_1 1 rfl rfl, ne_X11, pd_3, by decide⟩
set_option maxRecDepth 20000 in
theorem m_L_194 : VK RL 194 yX12_back (Cond.code yX12_back prog_14_method_72_code 2 (Option.some FieldType.boolean)) 2 RX12 0 := ⟨_, _, rfl, h_X12_back, TT_8 38 rfl rfl, TT_8 39 rfl rfl, TT_8 40 rfl rfl, TT_1 7 rfl rfl, ne_X12, pd_3, by decide⟩
set_option maxRecDepth 20000 in
theorem m_L_195 : VK RL 195 yX11_count (Cond.code yX11_count prog_1_method_29_code 2 (Option.some FieldType.int)) 2 RX11 1 := ⟨_, _, rfl, h_X11_count, TT_2 54 rfl rfl, TT_2 55 rfl rfl, TT_2 56 rfl rfl, TT_1 1 rfl rfl, ne_X11, pd_6, by decide⟩
set_option maxRecDepth 20000 in
theorem m_L_198 : VK RL 198 yX12_count (Cond.code yX12_count prog_14_method_73_code 2 (Option.some FieldType.int)) 2 RX12 1 := ⟨_, _, rfl, h_X12_count, TT_8 42 rfl rfl, TT_8 43 rfl rfl, TT_8 44 rfl rfl, TT_1 7 rfl rfl, ne_X12, pd_6, by decide⟩
set_option maxRecDepth 20000 in
theorem m_X12_1 : Cond.methodLink RX12 1 Lib.objectInit ∈ TT := TT_6 114 rfl rfl
set_option maxRecDepth 20000 in
theorem m_X12_70 : SK RX12 70 yX12_isIn (Cond.code yX12_isIn prog_14_method_3_code 3 (Option.some FieldType.boolean)) 3 3 := ⟨_, _, rfl, h_X12_isIn, TT_6 225 rfl rfl, TT_6 226 rfl rfl, TT_1 7 rfl rfl, ne_X12, pd_16, by decide⟩
set_option maxRecDepth 20000 in
theorem m_X12_86 : VK RX12 86 yX12_letter (Cond.code yX12_letter prog_14_method_7_code 2 (Option.some FieldType.int)) 2 RX12 1 := ⟨_, _, rfl, h_X12_letter, TT_7 0 rfl rfl, TT_7 2 rfl rfl, TT_priv 52 rfl rfl, TT_1 7 rfl rfl, ne_X12, pd_6, by decide⟩
set_option maxRecDepth 20000 in
theorem m_X12_90 : VK RX12 90 yX12_skip (Cond.code yX12_skip prog_14_method_8_code 1 (none : Option FieldType)) 1 RX12 0 := ⟨_, _, rfl, h_X12_skip, TT_6 236 rfl rfl, TT_6 238 rfl rfl, TT_priv 51 rfl rfl, TT_1 7 rfl rfl, ne_X12, pd_2, by decide⟩
set_option maxRecDepth 20000 in
theorem m_X12_93 : VK RX12 93 yJ0_length_8abf5 (Cond.code yJ0_length_8abf5 prog_26_method_54_code 1 (Option.some FieldType.int)) 1 RJ0 0 := ⟨_, _, rfl, h_J0_length_8abf5, TT_7 17 rfl rfl, TT_2 99 rfl rfl, TT_2 100 rfl rfl, TT_1 9 rfl rfl, ne_J0, pd_1, by decide⟩
set_option maxRecDepth 20000 in
theorem m_X12_99 : VK RX12 99 yJ0_charAt_5068e (Cond.code yJ0_charAt_5068e prog_26_method_56_code 2 (Option.some FieldType.char)) 2 RJ0 1 := ⟨_, _, rfl, h_J0_charAt_5068e, TT_7 18 rfl rfl, TT_2 109 rfl rfl, TT_2 110 rfl rfl, TT_1 9 rfl rfl, ne_J0, pd_5, by decide⟩
set_option maxRecDepth 20000 in
theorem m_X12_103 : VK RX12 103 yX12_wrong (Cond.code yX12_wrong prog_14_method_11_code 2 (none : Option FieldType)) 2 RX12 1 := ⟨_, _, rfl, h_X12_wrong, TT_7 4 rfl rfl, TT_7 6 rfl rfl, TT_priv 53 rfl rfl, TT_1 7 rfl rfl, ne_X12, pd_8, by decide⟩
set_option maxRecDepth 20000 in
theorem m_X12_109 : VK RX12 109 yX12_has (Cond.code yX12_has prog_14_method_10_code 4 (Option.some FieldType.boolean)) 4 RX12 1 := ⟨_, _, rfl, h_X12_has, TT_7 13 rfl rfl, TT_7 15 rfl rfl, TT_priv 55 rfl rfl, TT_1 7 rfl rfl, ne_X12, pd_57, by decide⟩
set_option maxRecDepth 20000 in
theorem m_X12_113 : VK RX12 113 yX12_figures (Cond.code yX12_figures prog_14_method_12_code 5 (Option.some FieldType.int)) 5 RX12 2 := ⟨_, _, rfl, h_X12_figures, TT_7 19 rfl rfl, TT_7 21 rfl rfl, TT_priv 56 rfl rfl, TT_1 7 rfl rfl, ne_X12, pd_10, by decide⟩
set_option maxRecDepth 20000 in
theorem m_X12_132 : VK RX12 132 yX12_ruleLine (Cond.code yX12_ruleLine prog_14_method_22_code 3 (none : Option FieldType)) 3 RX12 0 := ⟨_, _, rfl, h_X12_ruleLine, TT_7 8 rfl rfl, TT_7 10 rfl rfl, TT_priv 54 rfl rfl, TT_1 7 rfl rfl, ne_X12, pd_2, by decide⟩
set_option maxRecDepth 20000 in
theorem m_X12_135 : VK RX12 135 yX12_courtLine (Cond.code yX12_courtLine prog_14_method_13_code 5 (none : Option FieldType)) 5 RX12 0 := ⟨_, _, rfl, h_X12_courtLine, TT_7 62 rfl rfl, TT_7 64 rfl rfl, TT_priv 64 rfl rfl, TT_1 7 rfl rfl, ne_X12, pd_2, by decide⟩
set_option maxRecDepth 20000 in
theorem m_X12_138 : VK RX12 138 yX12_isSign (Cond.code yX12_isSign prog_14_method_9_code 2 (Option.some FieldType.boolean)) 2 RX12 1 := ⟨_, _, rfl, h_X12_isSign, TT_7 37 rfl rfl, TT_7 39 rfl rfl, TT_priv 60 rfl rfl, TT_1 7 rfl rfl, ne_X12, pd_9, by decide⟩
set_option maxRecDepth 20000 in
theorem m_X12_142 : VK RX12 142 yX12_lines (Cond.code yX12_lines prog_14_method_14_code 4 (none : Option FieldType)) 4 RX12 1 := ⟨_, _, rfl, h_X12_lines, TT_6 232 rfl rfl, TT_6 234 rfl rfl, TT_priv 50 rfl rfl, TT_1 7 rfl rfl, ne_X12, pd_58, by decide⟩
set_option maxRecDepth 20000 in
theorem m_X12_154 : VK RX12 154 yX12_part (Cond.code yX12_part prog_14_method_16_code 2 (Option.some FieldType.int)) 2 RX12 0 := ⟨_, _, rfl, h_X12_part, TT_7 51 rfl rfl, TT_7 53 rfl rfl, TT_priv 63 rfl rfl, TT_1 7 rfl rfl, ne_X12, pd_1, by decide⟩
set_option maxRecDepth 20000 in
theorem m_X12_168 : VK RX12 168 yX12_sum (Cond.code yX12_sum prog_14_method_17_code 2 (Option.some FieldType.int)) 2 RX12 0 := ⟨_, _, rfl, h_X12_sum, TT_7 47 rfl rfl, TT_7 49 rfl rfl, TT_priv 62 rfl rfl, TT_1 7 rfl rfl, ne_X12, pd_1, by decide⟩
set_option maxRecDepth 20000 in
theorem m_X12_173 : VK RX12 173 yX12_plainCond (Cond.code yX12_plainCond prog_14_method_18_code 4 (Option.some FieldType.boolean)) 4 RX12 0 := ⟨_, _, rfl, h_X12_plainCond, TT_7 41 rfl rfl, TT_7 43 rfl rfl, TT_priv 61 rfl rfl, TT_1 7 rfl rfl, ne_X12, pd_3, by decide⟩
set_option maxRecDepth 20000 in
theorem m_X12_177 : VK RX12 177 yX12_atom (Cond.code yX12_atom prog_14_method_19_code 4 (Option.some FieldType.boolean)) 4 RX12 0 := ⟨_, _, rfl, h_X12_atom, TT_7 32 rfl rfl, TT_7 34 rfl rfl, TT_priv 59 rfl rfl, TT_1 7 rfl rfl, ne_X12, pd_3, by decide⟩
set_option maxRecDepth 20000 in
theorem m_X12_180 : VK RX12 180 yX12_some (Cond.code yX12_some prog_14_method_21_code 3 (Option.some FieldType.boolean)) 3 RX12 0 := ⟨_, _, rfl, h_X12_some, TT_7 24 rfl rfl, TT_7 26 rfl rfl, TT_priv 57 rfl rfl, TT_1 7 rfl rfl, ne_X12, pd_3, by decide⟩
set_option maxRecDepth 20000 in
theorem m_X12_185 : VK RX12 185 yX12_every (Cond.code yX12_every prog_14_method_20_code 3 (Option.some FieldType.boolean)) 3 RX12 0 := ⟨_, _, rfl, h_X12_every, TT_7 28 rfl rfl, TT_7 30 rfl rfl, TT_priv 58 rfl rfl, TT_1 7 rfl rfl, ne_X12, pd_3, by decide⟩
set_option maxRecDepth 20000 in
theorem m_X12_197 : SK RX12 197 yX12_isPlayer (Cond.code yX12_isPlayer prog_14_method_4_code 1 (Option.some FieldType.boolean)) 1 1 := ⟨_, _, rfl, h_X12_isPlayer, TT_7 88 rfl rfl, TT_7 89 rfl rfl, TT_1 7 rfl rfl, ne_X12, pd_9, by decide⟩
set_option maxRecDepth 20000 in
theorem m_X12_200 : VK RX12 200 yX12_takes (Cond.code yX12_takes prog_14_method_28_code 2 (none : Option FieldType)) 2 RX12 0 := ⟨_, _, rfl, h_X12_takes, TT_7 95 rfl rfl, TT_7 97 rfl rfl, TT_priv 65 rfl rfl, TT_1 7 rfl rfl, ne_X12, pd_2, by decide⟩
set_option maxRecDepth 20000 in
theorem m_X12_203 : VK RX12 203 yX12_styleOf (Cond.code yX12_styleOf prog_14_method_27_code 3 (Option.some FieldType.int)) 3 RX12 1 := ⟨_, _, rfl, h_X12_styleOf, TT_7 99 rfl rfl, TT_7 101 rfl rfl, TT_priv 66 rfl rfl, TT_1 7 rfl rfl, ne_X12, pd_6, by decide⟩
set_option maxRecDepth 20000 in
theorem m_X12_206 : VK RX12 206 yX12_wouldWin (Cond.code yX12_wouldWin prog_14_method_34_code 2 (Option.some FieldType.boolean)) 2 RX12 1 := ⟨_, _, rfl, h_X12_wouldWin, TT_7 123 rfl rfl, TT_7 125 rfl rfl, TT_priv 68 rfl rfl, TT_1 7 rfl rfl, ne_X12, pd_9, by decide⟩
set_option maxRecDepth 20000 in
theorem m_X12_209 : VK RX12 209 yX12_told (Cond.code yX12_told prog_14_method_36_code 2 (Option.some FieldType.int)) 2 RX12 1 := ⟨_, _, rfl, h_X12_told, TT_7 119 rfl rfl, TT_7 121 rfl rfl, TT_priv 67 rfl rfl, TT_1 7 rfl rfl, ne_X12, pd_6, by decide⟩
set_option maxRecDepth 20000 in
theorem m_X12_218 : VK RX12 218 yX12_point (Cond.code yX12_point prog_14_method_38_code 2 (none : Option FieldType)) 2 RX12 1 := ⟨_, _, rfl, h_X12_point, TT_7 139 rfl rfl, TT_7 141 rfl rfl, TT_priv 71 rfl rfl, TT_1 7 rfl rfl, ne_X12, pd_8, by decide⟩
set_option maxRecDepth 20000 in
theorem m_X12_221 : VK RX12 221 yX12_changes (Cond.code yX12_changes prog_14_method_39_code 2 (none : Option FieldType)) 2 RX12 0 := ⟨_, _, rfl, h_X12_changes, TT_7 143 rfl rfl, TT_7 145 rfl rfl, TT_priv 72 rfl rfl, TT_1 7 rfl rfl, ne_X12, pd_2, by decide⟩
set_option maxRecDepth 20000 in
theorem m_X12_224 : VK RX12 224 yX12_gone (Cond.code yX12_gone prog_14_method_40_code 1 (none : Option FieldType)) 1 RX12 0 := ⟨_, _, rfl, h_X12_gone, TT_7 147 rfl rfl, TT_7 149 rfl rfl, TT_priv 73 rfl rfl, TT_1 7 rfl rfl, ne_X12, pd_2, by decide⟩
set_option maxRecDepth 20000 in
theorem m_X12_227 : VK RX12 227 yX12_isOver (Cond.code yX12_isOver prog_14_method_35_code 1 (Option.some FieldType.boolean)) 1 RX12 0 := ⟨_, _, rfl, h_X12_isOver, TT_7 131 rfl rfl, TT_7 133 rfl rfl, TT_priv 69 rfl rfl, TT_1 7 rfl rfl, ne_X12, pd_3, by decide⟩
set_option maxRecDepth 20000 in
theorem m_X12_230 : VK RX12 230 yX12_rallies (Cond.code yX12_rallies prog_14_method_41_code 5 (none : Option FieldType)) 5 RX12 1 := ⟨_, _, rfl, h_X12_rallies, TT_7 135 rfl rfl, TT_7 137 rfl rfl, TT_priv 70 rfl rfl, TT_1 7 rfl rfl, ne_X12, pd_8, by decide⟩
set_option maxRecDepth 20000 in
theorem m_X12_233 : VK RX12 233 yX12_puts (Cond.code yX12_puts prog_14_method_29_code 2 (none : Option FieldType)) 2 RX12 0 := ⟨_, _, rfl, h_X12_puts, TT_7 151 rfl rfl, TT_7 153 rfl rfl, TT_priv 74 rfl rfl, TT_1 7 rfl rfl, ne_X12, pd_2, by decide⟩
set_option maxRecDepth 20000 in
theorem m_X12_236 : VK RX12 236 yX12_takesBisque (Cond.code yX12_takesBisque prog_14_method_43_code 3 (none : Option FieldType)) 3 RX12 1 := ⟨_, _, rfl, h_X12_takesBisque, TT_7 159 rfl rfl, TT_7 161 rfl rfl, TT_priv 75 rfl rfl, TT_1 7 rfl rfl, ne_X12, pd_8, by decide⟩
set_option maxRecDepth 20000 in
theorem m_X12_239 : VK RX12 239 yX12_unnumber (Cond.code yX12_unnumber prog_14_method_46_code 3 (none : Option FieldType)) 3 RX12 1 := ⟨_, _, rfl, h_X12_unnumber, TT_7 175 rfl rfl, TT_7 177 rfl rfl, TT_priv 78 rfl rfl, TT_1 7 rfl rfl, ne_X12, pd_8, by decide⟩
set_option maxRecDepth 20000 in
theorem m_X12_242 : VK RX12 242 yX12_number (Cond.code yX12_number prog_14_method_45_code 2 (Option.some FieldType.int)) 2 RX12 0 := ⟨_, _, rfl, h_X12_number, TT_7 194 rfl rfl, TT_7 196 rfl rfl, TT_priv 82 rfl rfl, TT_1 7 rfl rfl, ne_X12, pd_1, by decide⟩
set_option maxRecDepth 20000 in
theorem m_X12_249 : VK RX12 249 yX12_had (Cond.code yX12_had prog_14_method_49_code 11 (Option.some FieldType.int)) 11 RX12 6 := ⟨_, _, rfl, h_X12_had, TT_7 190 rfl rfl, TT_7 192 rfl rfl, TT_priv 81 rfl rfl, TT_1 7 rfl rfl, ne_X12, pd_21, by decide⟩
set_option maxRecDepth 20000 in
theorem m_X12_253 : SK RX12 253 yX12_canBe (Cond.code yX12_canBe prog_14_method_48_code 3 (Option.some FieldType.boolean)) 3 1 := ⟨_, _, rfl, h_X12_canBe, TT_7 183 rfl rfl, TT_7 184 rfl rfl, TT_1 7 rfl rfl, ne_X12, pd_9, by decide⟩
set_option maxRecDepth 20000 in
theorem m_X12_256 : VK RX12 256 yX12_byStyles (Cond.code yX12_byStyles prog_14_method_50_code 6 (Option.some FieldType.int)) 6 RX12 4 := ⟨_, _, rfl, h_X12_byStyles, TT_7 186 rfl rfl, TT_7 188 rfl rfl, TT_priv 80 rfl rfl, TT_1 7 rfl rfl, ne_X12, pd_25, by decide⟩
set_option maxRecDepth 20000 in
theorem m_X12_260 : VK RX12 260 yX12_refuses (Cond.code yX12_refuses prog_14_method_53_code 3 (Option.some FieldType.int)) 3 RX12 2 := ⟨_, _, rfl, h_X12_refuses, TT_7 167 rfl rfl, TT_7 169 rfl rfl, TT_priv 76 rfl rfl, TT_1 7 rfl rfl, ne_X12, pd_10, by decide⟩
set_option maxRecDepth 20000 in
theorem m_X12_263 : VK RX12 263 yX12_allStyles (Cond.code yX12_allStyles prog_14_method_47_code 2 (none : Option FieldType)) 2 RX12 0 := ⟨_, _, rfl, h_X12_allStyles, TT_7 171 rfl rfl, TT_7 173 rfl rfl, TT_priv 77 rfl rfl, TT_1 7 rfl rfl, ne_X12, pd_2, by decide⟩
set_option maxRecDepth 20000 in
theorem m_X12_266 : VK RX12 266 yX12_plays0 (Cond.code yX12_plays0 prog_14_method_51_code 8 (none : Option FieldType)) 8 RX12 5 := ⟨_, _, rfl, h_X12_plays0, TT_7 179 rfl rfl, TT_7 181 rfl rfl, TT_priv 79 rfl rfl, TT_1 7 rfl rfl, ne_X12, pd_26, by decide⟩
set_option maxRecDepth 20000 in
theorem m_X12_270 : VK RX12 270 yX12_atNow (Cond.code yX12_atNow prog_14_method_52_code 1 (Option.some FieldType.int)) 1 RX12 0 := ⟨_, _, rfl, h_X12_atNow, TT_7 200 rfl rfl, TT_7 202 rfl rfl, TT_priv 83 rfl rfl, TT_1 7 rfl rfl, ne_X12, pd_1, by decide⟩
set_option maxRecDepth 20000 in
theorem m_X12_275 : VK RX12 275 yX12_setOf (Cond.code yX12_setOf prog_14_method_59_code 9 (Option.some FieldType.long)) 9 RX12 4 := ⟨_, _, rfl, h_X12_setOf, TT_7 226 rfl rfl, TT_7 228 rfl rfl, TT_priv 85 rfl rfl, TT_1 7 rfl rfl, ne_X12, pd_18, by decide⟩
set_option maxRecDepth 20000 in
theorem m_X12_279 : VK RX12 279 yX12_beginNumber (Cond.code yX12_beginNumber prog_14_method_58_code 3 (Option.some FieldType.int)) 3 RX12 1 := ⟨_, _, rfl, h_X12_beginNumber, TT_7 222 rfl rfl, TT_7 224 rfl rfl, TT_priv 84 rfl rfl, TT_1 7 rfl rfl, ne_X12, pd_6, by decide⟩
set_option maxRecDepth 20000 in
theorem m_X12_284 : VK RX12 284 yX12_isLog (Cond.code yX12_isLog prog_14_method_63_code 4 (Option.some FieldType.boolean)) 4 RX12 1 := ⟨_, _, rfl, h_X12_isLog, TT_8 4 rfl rfl, TT_8 6 rfl rfl, TT_priv 86 rfl rfl, TT_1 7 rfl rfl, ne_X12, pd_9, by decide⟩
set_option maxRecDepth 20000 in
theorem m_X12_287 : VK RX12 287 yX12_howOf (Cond.code yX12_howOf prog_14_method_64_code 2 (Option.some FieldType.int)) 2 RX12 1 := ⟨_, _, rfl, h_X12_howOf, TT_8 8 rfl rfl, TT_8 10 rfl rfl, TT_priv 87 rfl rfl, TT_1 7 rfl rfl, ne_X12, pd_6, by decide⟩
set_option maxRecDepth 20000 in
theorem m_X12_290 : VK RX12 290 yX12_whole (Cond.code yX12_whole prog_14_method_66_code 1 (Option.some FieldType.int)) 1 RX12 0 := ⟨_, _, rfl, h_X12_whole, TT_8 16 rfl rfl, TT_8 18 rfl rfl, TT_priv 88 rfl rfl, TT_1 7 rfl rfl, ne_X12, pd_1, by decide⟩
set_option maxRecDepth 20000 in
theorem m_X12_299 : VK RX12 299 yX12_unwhole (Cond.code yX12_unwhole prog_14_method_67_code 2 (none : Option FieldType)) 2 RX12 1 := ⟨_, _, rfl, h_X12_unwhole, TT_8 20 rfl rfl, TT_8 22 rfl rfl, TT_priv 89 rfl rfl, TT_1 7 rfl rfl, ne_X12, pd_8, by decide⟩
set_option maxRecDepth 20000 in
theorem m_X12_302 : VK RX12 302 yX12_joins (Cond.code yX12_joins prog_14_method_68_code 6 (none : Option FieldType)) 6 RX12 2 := ⟨_, _, rfl, h_X12_joins, TT_8 24 rfl rfl, TT_8 26 rfl rfl, TT_priv 90 rfl rfl, TT_1 7 rfl rfl, ne_X12, pd_12, by decide⟩
set_option maxRecDepth 20000 in
theorem m_J0_335 : VK RJ0 335 yJ0_coder_7d493 (Cond.code yJ0_coder_7d493 prog_26_method_152_code 1 (Option.some FieldType.byte)) 1 RJ0 0 := ⟨_, _, rfl, h_J0_coder_7d493, TT_2 102 rfl rfl, TT_2 103 rfl rfl, TT_2 104 rfl rfl, TT_1 9 rfl rfl, ne_J0, pd_0, by decide⟩
set_option maxRecDepth 20000 in
theorem m_J0_492 : VK RJ0 492 yJ0_isLatin1_aae02 (Cond.code yJ0_isLatin1_aae02 prog_26_method_154_code 1 (Option.some FieldType.boolean)) 1 RJ0 0 := ⟨_, _, rfl, h_J0_isLatin1_aae02, TT_2 112 rfl rfl, TT_2 113 rfl rfl, TT_2 114 rfl rfl, TT_1 9 rfl rfl, ne_J0, pd_3, by decide⟩
set_option maxRecDepth 20000 in
theorem m_J0_495 : SK RJ0 495 yJ1_charAt_3b067 (Cond.code yJ1_charAt_3b067 prog_27_method_2_code 2 (Option.some FieldType.char)) 2 2 := ⟨_, _, rfl, h_J1_charAt_3b067, TT_2 116 rfl rfl, TT_2 117 rfl rfl, TT_1 10 rfl rfl, ne_J1, pd_60, by decide⟩
set_option maxRecDepth 20000 in
theorem m_J0_498 : SK RJ0 498 yJ2_charAt_3b067 (Cond.code yJ2_charAt_3b067 prog_28_method_83_code 2 (Option.some FieldType.char)) 2 2 := ⟨_, _, rfl, h_J2_charAt_3b067, TT_2 127 rfl rfl, TT_2 128 rfl rfl, TT_1 12 rfl rfl, ne_J2, pd_60, by decide⟩
set_option maxRecDepth 20000 in
theorem m_J0_1059 : SK RJ0 1059 yJ3_checkIndex_8e157 (Cond.code yJ3_checkIndex_8e157 prog_36_method_11_code 3 (Option.some FieldType.int)) 3 3 := ⟨_, _, rfl, h_J3_checkIndex_8e157, TT_2 124 rfl rfl, TT_2 125 rfl rfl, TT_1 11 rfl rfl, ne_J3, pd_30, by decide⟩
set_option maxRecDepth 20000 in
theorem m_J1_9 : SK RJ1 9 yJ0_checkIndex_df160 (Cond.code yJ0_checkIndex_df160 prog_26_method_155_code 2 (none : Option FieldType)) 2 2 := ⟨_, _, rfl, h_J0_checkIndex_df160, TT_2 119 rfl rfl, TT_2 120 rfl rfl, TT_1 9 rfl rfl, ne_J0, pd_12, by decide⟩
set_option maxRecDepth 20000 in
theorem m_J2_48 : SK RJ2 48 yJ2_length_9d52b (Cond.code yJ2_length_9d52b prog_28_method_6_code 1 (Option.some FieldType.int)) 1 1 := ⟨_, _, rfl, h_J2_length_9d52b, TT_2 133 rfl rfl, TT_2 134 rfl rfl, TT_1 12 rfl rfl, ne_J2, pd_59, by decide⟩
set_option maxRecDepth 20000 in
theorem m_J2_67 : SK RJ2 67 yJ2_checkIndex_2214a (Cond.code yJ2_checkIndex_2214a prog_28_method_91_code 2 (none : Option FieldType)) 2 2 := ⟨_, _, rfl, h_J2_checkIndex_2214a, TT_2 130 rfl rfl, TT_2 131 rfl rfl, TT_1 12 rfl rfl, ne_J2, pd_37, by decide⟩
set_option maxRecDepth 20000 in
theorem m_J2_71 : SK RJ2 71 yJ2_getChar_3b067 (Cond.code yJ2_getChar_3b067 prog_28_method_5_code 2 (Option.some FieldType.char)) 2 2 := ⟨_, _, rfl, h_J2_getChar_3b067, TT_2 137 rfl rfl, TT_2 138 rfl rfl, TT_1 12 rfl rfl, ne_J2, pd_60, by decide⟩
set_option maxRecDepth 20000 in
theorem m_J2_414 : SK RJ2 414 yJ0_checkIndex_df160 (Cond.code yJ0_checkIndex_df160 prog_26_method_155_code 2 (none : Option FieldType)) 2 2 := ⟨_, _, rfl, h_J0_checkIndex_df160, TT_2 136 rfl rfl, TT_2 120 rfl rfl, TT_1 9 rfl rfl, ne_J0, pd_12, by decide⟩
set_option maxRecDepth 20000 in
theorem m_J7_304 : SK RJ7 304 yJ9_min_7cf53 (Cond.code yJ9_min_7cf53 prog_24_method_69_code 2 (Option.some FieldType.int)) 2 2 := ⟨_, _, rfl, h_J9_min_7cf53, TT_3 144 rfl rfl, TT_2 76 rfl rfl, TT_1 8 rfl rfl, ne_J9, pd_10, by decide⟩
abbrev mtX11_init : Mt := (RX11, prog_1_method_1_code, 1, (none : Option FieldType), [], "<init>")
abbrev mtX11_append : Mt := (RX11, prog_1_method_3_code, 3, (none : Option FieldType), [], "append")
abbrev mtX11_back : Mt := (RX11, prog_1_method_28_code, 1, (Option.some FieldType.boolean), [], "back")
abbrev mtX11_begin : Mt := (RX11, prog_1_method_13_code, 3, (none : Option FieldType), [], "begin")
abbrev mtX11_best : Mt := (RX11, prog_1_method_18_code, 6, (Option.some FieldType.int), [], "best")
abbrev mtX11_bisque : Mt := (RX11, prog_1_method_16_code, 2, (Option.some FieldType.boolean), [], "bisque")
abbrev mtX11_chance : Mt := (RX11, prog_1_method_17_code, 5, (Option.some FieldType.int), [], "chance")
abbrev mtX11_count : Mt := (RX11, prog_1_method_29_code, 2, (Option.some FieldType.int), [], "count")
abbrev mtX11_court : Mt := (RX11, prog_1_method_5_code, 1, (Option.some FieldType.int), [], "court")
abbrev mtX11_end : Mt := (RX11, prog_1_method_4_code, 2, (Option.some FieldType.boolean), [], "end")
abbrev mtX11_even : Mt := (RX11, prog_1_method_23_code, 11, (Option.some FieldType.int), [], "even")
abbrev mtX11_fault : Mt := (RX11, prog_1_method_7_code, 1, (Option.some FieldType.int), [], "fault")
abbrev mtX11_feed : Mt := (RX11, prog_1_method_2_code, 6, (Option.some FieldType.int), [], "feed")
abbrev mtX11_freshOdds : Mt := (RX11, prog_1_method_40_code, 3, (Option.some (FieldType.object "ChaseCourt$Odds")), [], "freshOdds")
abbrev mtX11_games : Mt := (RX11, prog_1_method_12_code, 3, (none : Option FieldType), [], "games")
abbrev mtX11_howOf : Mt := (RX11, prog_1_method_36_code, 1, (Option.some FieldType.int), [], "howOf")
abbrev mtX11_image : Mt := (RX11, prog_1_method_27_code, 1, (none : Option FieldType), [], "image")
abbrev mtX11_log : Mt := (RX11, prog_1_method_24_code, 4, (Option.some FieldType.int), [], "log")
abbrev mtX11_look : Mt := (RX11, prog_1_method_8_code, 4, (Option.some FieldType.int), [], "look")
abbrev mtX11_mends : Mt := (RX11, prog_1_method_25_code, 8, (Option.some FieldType.long), [], "mends")
abbrev mtX11_needGoingOn : Mt := (RX11, prog_1_method_34_code, 2, (none : Option FieldType), [], "needGoingOn")
abbrev mtX11_needLine : Mt := (RX11, prog_1_method_31_code, 1, (none : Option FieldType), [], "needLine")
abbrev mtX11_needLog : Mt := (RX11, prog_1_method_35_code, 6, (none : Option FieldType), [], "needLog")
abbrev mtX11_needPlayer : Mt := (RX11, prog_1_method_30_code, 1, (none : Option FieldType), [], "needPlayer")
abbrev mtX11_needRallies : Mt := (RX11, prog_1_method_32_code, 1, (none : Option FieldType), [], "needRallies")
abbrev mtX11_needWhat : Mt := (RX11, prog_1_method_33_code, 2, (none : Option FieldType), [], "needWhat")
abbrev mtX11_newGame : Mt := (RX11, prog_1_method_39_code, 2, (Option.some (FieldType.object "ChaseCourt$Score")), [], "newGame")
abbrev mtX11_play : Mt := (RX11, prog_1_method_26_code, 7, (Option.some FieldType.int), [], "play")
abbrev mtX11_plays : Mt := (RX11, prog_1_method_9_code, 4, (Option.some FieldType.int), [], "plays")
abbrev mtX11_rally : Mt := (RX11, prog_1_method_15_code, 3, (Option.some FieldType.int), [], "rally")
abbrev mtX11_rule : Mt := (RX11, prog_1_method_6_code, 1, (Option.some FieldType.int), [], "rule")
abbrev mtX11_saves : Mt := (RX11, prog_1_method_19_code, 7, (Option.some FieldType.int), [], "saves")
abbrev mtX11_score : Mt := (RX11, prog_1_method_11_code, 6, (none : Option FieldType), [], "score")
abbrev mtX11_set : Mt := (RX11, prog_1_method_21_code, 9, (Option.some FieldType.int), [], "set")
abbrev mtX11_stands : Mt := (RX11, prog_1_method_14_code, 2, (Option.some FieldType.int), [], "stands")
abbrev mtX11_style : Mt := (RX11, prog_1_method_10_code, 2, (Option.some FieldType.int), [], "style")
abbrev mtX11_useUp : Mt := (RX11, prog_1_method_37_code, 2, (Option.some FieldType.int), [], "useUp")
abbrev mtX11_ways : Mt := (RX11, prog_1_method_22_code, 7, (Option.some FieldType.int), [], "ways")
abbrev mtX11_waysOf : Mt := (RX11, prog_1_method_38_code, 1, (Option.some FieldType.int), [], "waysOf")
abbrev mtX11_worth : Mt := (RX11, prog_1_method_20_code, 7, (Option.some FieldType.int), [], "worth")
abbrev mtX0_init : Mt := (RX0, prog_2_method_1_code, 2, (none : Option FieldType), [], "<init>")
abbrev mtX0_addUp : Mt := (RX0, prog_2_method_7_code, 4, (Option.some FieldType.boolean), [], "addUp")
abbrev mtX0_drawOutcome : Mt := (RX0, prog_2_method_9_code, 5, (Option.some FieldType.int), [], "drawOutcome")
abbrev mtX0_pointBy : Mt := (RX0, prog_2_method_8_code, 2, (Option.some FieldType.int), [], "pointBy")
abbrev mtX0_readLine : Mt := (RX0, prog_2_method_4_code, 2, (Option.some FieldType.boolean), [], "readLine")
abbrev mtX0_readOutcome : Mt := (RX0, prog_2_method_6_code, 2, (Option.some FieldType.int), [], "readOutcome")
abbrev mtX0_readRally : Mt := (RX0, prog_2_method_5_code, 6, (Option.some FieldType.boolean), [], "readRally")
abbrev mtX0_readText : Mt := (RX0, prog_2_method_3_code, 3, (Option.some FieldType.int), [], "readText")
abbrev mtX0_takeFrom : Mt := (RX0, prog_2_method_2_code, 2, (none : Option FieldType), [], "takeFrom")
abbrev mtX1_init : Mt := (RX1, prog_3_method_1_code, 1, (none : Option FieldType), [], "<init>")
abbrev mtX1_close : Mt := (RX1, prog_3_method_8_code, 7, (none : Option FieldType), [], "close")
abbrev mtX1_fetch : Mt := (RX1, prog_3_method_5_code, 3, (none : Option FieldType), [], "fetch")
abbrev mtX1_follow : Mt := (RX1, prog_3_method_4_code, 8, (none : Option FieldType), [], "follow")
abbrev mtX1_open : Mt := (RX1, prog_3_method_2_code, 2, (none : Option FieldType), [], "open")
abbrev mtX1_reach : Mt := (RX1, prog_3_method_6_code, 7, (none : Option FieldType), [], "reach")
abbrev mtX1_step : Mt := (RX1, prog_3_method_3_code, 4, (none : Option FieldType), [], "step")
abbrev mtX1_tally : Mt := (RX1, prog_3_method_9_code, 4, (none : Option FieldType), [], "tally")
abbrev mtX1_turn : Mt := (RX1, prog_3_method_7_code, 4, (none : Option FieldType), [], "turn")
abbrev mtX2_init : Mt := (RX2, prog_4_method_1_code, 1, (none : Option FieldType), [], "<init>")
abbrev mtX2_choiceAt : Mt := (RX2, prog_4_method_22_code, 3, (Option.some FieldType.int), [], "choiceAt")
abbrev mtX2_fillEnds : Mt := (RX2, prog_4_method_15_code, 5, (none : Option FieldType), [], "fillEnds")
abbrev mtX2_fillOff : Mt := (RX2, prog_4_method_8_code, 6, (none : Option FieldType), [], "fillOff")
abbrev mtX2_fillWeights : Mt := (RX2, prog_4_method_7_code, 7, (none : Option FieldType), [], "fillWeights")
abbrev mtX2_makeRoom : Mt := (RX2, prog_4_method_12_code, 2, (none : Option FieldType), [], "makeRoom")
abbrev mtX2_makeRows : Mt := (RX2, prog_4_method_13_code, 2, (none : Option FieldType), [], "makeRows")
abbrev mtX2_mayCome : Mt := (RX2, prog_4_method_9_code, 3, (Option.some FieldType.boolean), [], "mayCome")
abbrev mtX2_most : Mt := (RX2, prog_4_method_17_code, 5, (Option.some FieldType.int), [], "most")
abbrev mtX2_open : Mt := (RX2, prog_4_method_2_code, 4, (none : Option FieldType), [], "open")
abbrev mtX2_placeBehind : Mt := (RX2, prog_4_method_10_code, 1, (Option.some FieldType.int), [], "placeBehind")
abbrev mtX2_placeOf : Mt := (RX2, prog_4_method_3_code, 2, (Option.some FieldType.int), [], "placeOf")
abbrev mtX2_savedAt : Mt := (RX2, prog_4_method_20_code, 2, (Option.some FieldType.int), [], "savedAt")
abbrev mtX2_spread : Mt := (RX2, prog_4_method_6_code, 4, (none : Option FieldType), [], "spread")
abbrev mtX2_spreadAll : Mt := (RX2, prog_4_method_4_code, 6, (none : Option FieldType), [], "spreadAll")
abbrev mtX2_takeAll : Mt := (RX2, prog_4_method_5_code, 4, (none : Option FieldType), [], "takeAll")
abbrev mtX2_takesAt : Mt := (RX2, prog_4_method_21_code, 2, (Option.some FieldType.boolean), [], "takesAt")
abbrev mtX2_valueAt : Mt := (RX2, prog_4_method_19_code, 2, (Option.some FieldType.int), [], "valueAt")
abbrev mtX2_weigh : Mt := (RX2, prog_4_method_18_code, 8, (Option.some FieldType.int), [], "weigh")
abbrev mtX2_weighAll : Mt := (RX2, prog_4_method_14_code, 5, (none : Option FieldType), [], "weighAll")
abbrev mtX2_weighLevel : Mt := (RX2, prog_4_method_16_code, 4, (none : Option FieldType), [], "weighLevel")
abbrev mtX2_write : Mt := (RX2, prog_4_method_11_code, 4, (none : Option FieldType), [], "write")
abbrev mtX3_init : Mt := (RX3, prog_5_method_1_code, 1, (none : Option FieldType), [], "<init>")
abbrev mtX3_clear : Mt := (RX3, prog_5_method_2_code, 1, (none : Option FieldType), [], "clear")
abbrev mtX3_grow : Mt := (RX3, prog_5_method_7_code, 2, (none : Option FieldType), [], "grow")
abbrev mtX3_keyAt : Mt := (RX3, prog_5_method_4_code, 2, (Option.some FieldType.int), [], "keyAt")
abbrev mtX3_placeOf : Mt := (RX3, prog_5_method_5_code, 3, (Option.some FieldType.int), [], "placeOf")
abbrev mtX3_room : Mt := (RX3, prog_5_method_3_code, 1, (Option.some FieldType.int), [], "room")
abbrev mtX3_slotOf : Mt := (RX3, prog_5_method_6_code, 4, (Option.some FieldType.int), [], "slotOf")
abbrev mtX4_init : Mt := (RX4, prog_6_method_1_code, 2, (none : Option FieldType), [], "<init>")
abbrev mtX4_fact : Mt := (RX4, prog_6_method_6_code, 3, (Option.some FieldType.int), [], "fact")
abbrev mtX4_holds : Mt := (RX4, prog_6_method_3_code, 8, (Option.some FieldType.boolean), [], "holds")
abbrev mtX4_joined : Mt := (RX4, prog_6_method_5_code, 3, (Option.some FieldType.int), [], "joined")
abbrev mtX4_joins : Mt := (RX4, prog_6_method_4_code, 1, (Option.some FieldType.boolean), [], "joins")
abbrev mtX4_styleOf : Mt := (RX4, prog_6_method_2_code, 6, (Option.some FieldType.int), [], "styleOf")
abbrev mtX5_init : Mt := (RX5, prog_7_method_1_code, 1, (none : Option FieldType), [], "<init>")
abbrev mtX5_isPart : Mt := (RX5, prog_7_method_11_code, 1, (Option.some FieldType.boolean), [], "isPart")
abbrev mtX5_read : Mt := (RX5, prog_7_method_2_code, 3, (Option.some FieldType.int), [], "read")
abbrev mtX5_readAll : Mt := (RX5, prog_7_method_6_code, 3, (Option.some FieldType.boolean), [], "readAll")
abbrev mtX5_readAny : Mt := (RX5, prog_7_method_5_code, 3, (Option.some FieldType.boolean), [], "readAny")
abbrev mtX5_readAtom : Mt := (RX5, prog_7_method_7_code, 3, (Option.some FieldType.boolean), [], "readAtom")
abbrev mtX5_readCompared : Mt := (RX5, prog_7_method_9_code, 2, (Option.some FieldType.boolean), [], "readCompared")
abbrev mtX5_readHead : Mt := (RX5, prog_7_method_4_code, 2, (Option.some FieldType.boolean), [], "readHead")
abbrev mtX5_readInner : Mt := (RX5, prog_7_method_8_code, 3, (Option.some FieldType.boolean), [], "readInner")
abbrev mtX5_readSum : Mt := (RX5, prog_7_method_10_code, 4, (Option.some FieldType.boolean), [], "readSum")
abbrev mtX5_write : Mt := (RX5, prog_7_method_12_code, 2, (none : Option FieldType), [], "write")
abbrev mtX5_written : Mt := (RX5, prog_7_method_3_code, 1, (Option.some (FieldType.array FieldType.int)), [], "written")
abbrev mtX6_init : Mt := (RX6, prog_8_method_1_code, 1, (none : Option FieldType), [], "<init>")
abbrev mtX6_add : Mt := (RX6, prog_8_method_3_code, 2, (Option.some FieldType.int), [], "add")
abbrev mtX6_styleOf : Mt := (RX6, prog_8_method_4_code, 4, (Option.some FieldType.int), [], "styleOf")
abbrev mtX6_takeFrom : Mt := (RX6, prog_8_method_2_code, 3, (none : Option FieldType), [], "takeFrom")
abbrev mtX7_init : Mt := (RX7, prog_9_method_1_code, 1, (none : Option FieldType), [], "<init>")
abbrev mtX7_courtWordAt : Mt := (RX7, prog_9_method_8_code, 3, (Option.some FieldType.int), [], "courtWordAt")
abbrev mtX7_isDigit : Mt := (RX7, prog_9_method_5_code, 1, (Option.some FieldType.boolean), [], "isDigit")
abbrev mtX7_isLetter : Mt := (RX7, prog_9_method_4_code, 1, (Option.some FieldType.boolean), [], "isLetter")
abbrev mtX7_numberAt : Mt := (RX7, prog_9_method_6_code, 5, (Option.some FieldType.int), [], "numberAt")
abbrev mtX7_pass : Mt := (RX7, prog_9_method_13_code, 1, (none : Option FieldType), [], "pass")
abbrev mtX7_passNumber : Mt := (RX7, prog_9_method_15_code, 3, (Option.some FieldType.int), [], "passNumber")
abbrev mtX7_passes : Mt := (RX7, prog_9_method_14_code, 2, (Option.some FieldType.boolean), [], "passes")
abbrev mtX7_place : Mt := (RX7, prog_9_method_12_code, 1, (Option.some FieldType.int), [], "place")
abbrev mtX7_ruleWordAt : Mt := (RX7, prog_9_method_9_code, 3, (Option.some FieldType.int), [], "ruleWordAt")
abbrev mtX7_scan : Mt := (RX7, prog_9_method_2_code, 5, (none : Option FieldType), [], "scan")
abbrev mtX7_scanThing : Mt := (RX7, prog_9_method_3_code, 3, (Option.some FieldType.int), [], "scanThing")
abbrev mtX7_spells : Mt := (RX7, prog_9_method_10_code, 5, (Option.some FieldType.boolean), [], "spells")
abbrev mtX7_thing : Mt := (RX7, prog_9_method_11_code, 1, (Option.some FieldType.int), [], "thing")
abbrev mtX7_wordAt : Mt := (RX7, prog_9_method_7_code, 4, (Option.some FieldType.int), [], "wordAt")
abbrev mtX8_init : Mt := (RX8, prog_10_method_1_code, 1, (none : Option FieldType), [], "<init>")
abbrev mtX8_addChase : Mt := (RX8, prog_10_method_10_code, 2, (none : Option FieldType), [], "addChase")
abbrev mtX8_become : Mt := (RX8, prog_10_method_15_code, 4, (none : Option FieldType), [], "become")
abbrev mtX8_changeEnds : Mt := (RX8, prog_10_method_13_code, 2, (none : Option FieldType), [], "changeEnds")
abbrev mtX8_code : Mt := (RX8, prog_10_method_14_code, 2, (Option.some FieldType.int), [], "code")
abbrev mtX8_givePoint : Mt := (RX8, prog_10_method_11_code, 2, (none : Option FieldType), [], "givePoint")
abbrev mtX8_isOver : Mt := (RX8, prog_10_method_4_code, 2, (Option.some FieldType.boolean), [], "isOver")
abbrev mtX8_isPointOfGame : Mt := (RX8, prog_10_method_5_code, 1, (Option.some FieldType.boolean), [], "isPointOfGame")
abbrev mtX8_playOff : Mt := (RX8, prog_10_method_8_code, 2, (none : Option FieldType), [], "playOff")
abbrev mtX8_point : Mt := (RX8, prog_10_method_12_code, 4, (Option.some FieldType.boolean), [], "point")
abbrev mtX8_restart : Mt := (RX8, prog_10_method_3_code, 4, (none : Option FieldType), [], "restart")
abbrev mtX8_strike : Mt := (RX8, prog_10_method_7_code, 6, (Option.some FieldType.int), [], "strike")
abbrev mtX8_takeBisque : Mt := (RX8, prog_10_method_9_code, 4, (Option.some FieldType.boolean), [], "takeBisque")
abbrev mtX8_takeFrom : Mt := (RX8, prog_10_method_2_code, 2, (none : Option FieldType), [], "takeFrom")
abbrev mtX8_tell : Mt := (RX8, prog_10_method_6_code, 2, (Option.some FieldType.int), [], "tell")
abbrev mtX9_init : Mt := (RX9, prog_11_method_1_code, 1, (none : Option FieldType), [], "<init>")
abbrev mtX9_chanceOf : Mt := (RX9, prog_11_method_2_code, 9, (Option.some FieldType.int), [], "chanceOf")
abbrev mtX9_indexOf : Mt := (RX9, prog_11_method_3_code, 3, (Option.some FieldType.int), [], "indexOf")
abbrev mtX9_sum : Mt := (RX9, prog_11_method_4_code, 10, (Option.some FieldType.int), [], "sum")
abbrev mtX10_init : Mt := (RX10, prog_12_method_1_code, 1, (none : Option FieldType), [], "<init>")
abbrev mtX10_pairOf : Mt := (RX10, prog_12_method_3_code, 2, (Option.some FieldType.int), [], "pairOf")
abbrev mtX10_takeFrom : Mt := (RX10, prog_12_method_2_code, 2, (none : Option FieldType), [], "takeFrom")
abbrev mtX12_init : Mt := (RX12, prog_14_method_1_code, 2, (none : Option FieldType), [], "<init>")
abbrev mtX12_allStyles : Mt := (RX12, prog_14_method_47_code, 2, (none : Option FieldType), [], "allStyles")
abbrev mtX12_atNow : Mt := (RX12, prog_14_method_52_code, 1, (Option.some FieldType.int), [], "atNow")
abbrev mtX12_atom : Mt := (RX12, prog_14_method_19_code, 4, (Option.some FieldType.boolean), [], "atom")
abbrev mtX12_back : Mt := (RX12, prog_14_method_72_code, 2, (Option.some FieldType.boolean), [], "back")
abbrev mtX12_begin : Mt := (RX12, prog_14_method_33_code, 3, (none : Option FieldType), [], "begin")
abbrev mtX12_beginNumber : Mt := (RX12, prog_14_method_58_code, 3, (Option.some FieldType.int), [], "beginNumber")
abbrev mtX12_best : Mt := (RX12, prog_14_method_55_code, 12, (Option.some FieldType.int), [], "best")
abbrev mtX12_bisque : Mt := (RX12, prog_14_method_44_code, 2, (Option.some FieldType.boolean), [], "bisque")
abbrev mtX12_byStyles : Mt := (RX12, prog_14_method_50_code, 6, (Option.some FieldType.int), [], "byStyles")
abbrev mtX12_canBe : Mt := (RX12, prog_14_method_48_code, 3, (Option.some FieldType.boolean), [], "canBe")
abbrev mtX12_chance : Mt := (RX12, prog_14_method_54_code, 3, (Option.some FieldType.int), [], "chance")
abbrev mtX12_changes : Mt := (RX12, prog_14_method_39_code, 2, (none : Option FieldType), [], "changes")
abbrev mtX12_count : Mt := (RX12, prog_14_method_73_code, 2, (Option.some FieldType.int), [], "count")
abbrev mtX12_court : Mt := (RX12, prog_14_method_15_code, 4, (Option.some FieldType.int), [], "court")
abbrev mtX12_courtLine : Mt := (RX12, prog_14_method_13_code, 5, (none : Option FieldType), [], "courtLine")
abbrev mtX12_end : Mt := (RX12, prog_14_method_6_code, 2, (Option.some FieldType.boolean), [], "end")
abbrev mtX12_even : Mt := (RX12, prog_14_method_62_code, 7, (Option.some FieldType.int), [], "even")
abbrev mtX12_every : Mt := (RX12, prog_14_method_20_code, 3, (Option.some FieldType.boolean), [], "every")
abbrev mtX12_fault : Mt := (RX12, prog_14_method_24_code, 1, (Option.some FieldType.int), [], "fault")
abbrev mtX12_feed : Mt := (RX12, prog_14_method_5_code, 8, (Option.some FieldType.int), [], "feed")
abbrev mtX12_figures : Mt := (RX12, prog_14_method_12_code, 5, (Option.some FieldType.int), [], "figures")
abbrev mtX12_games : Mt := (RX12, prog_14_method_32_code, 3, (none : Option FieldType), [], "games")
abbrev mtX12_gone : Mt := (RX12, prog_14_method_40_code, 1, (none : Option FieldType), [], "gone")
abbrev mtX12_had : Mt := (RX12, prog_14_method_49_code, 11, (Option.some FieldType.int), [], "had")
abbrev mtX12_has : Mt := (RX12, prog_14_method_10_code, 4, (Option.some FieldType.boolean), [], "has")
abbrev mtX12_howOf : Mt := (RX12, prog_14_method_64_code, 2, (Option.some FieldType.int), [], "howOf")
abbrev mtX12_image : Mt := (RX12, prog_14_method_71_code, 2, (none : Option FieldType), [], "image")
abbrev mtX12_isIn : Mt := (RX12, prog_14_method_3_code, 3, (Option.some FieldType.boolean), [], "isIn")
abbrev mtX12_isLog : Mt := (RX12, prog_14_method_63_code, 4, (Option.some FieldType.boolean), [], "isLog")
abbrev mtX12_isOver : Mt := (RX12, prog_14_method_35_code, 1, (Option.some FieldType.boolean), [], "isOver")
abbrev mtX12_isPlayer : Mt := (RX12, prog_14_method_4_code, 1, (Option.some FieldType.boolean), [], "isPlayer")
abbrev mtX12_isSign : Mt := (RX12, prog_14_method_9_code, 2, (Option.some FieldType.boolean), [], "isSign")
abbrev mtX12_joins : Mt := (RX12, prog_14_method_68_code, 6, (none : Option FieldType), [], "joins")
abbrev mtX12_letter : Mt := (RX12, prog_14_method_7_code, 2, (Option.some FieldType.int), [], "letter")
abbrev mtX12_lines : Mt := (RX12, prog_14_method_14_code, 4, (none : Option FieldType), [], "lines")
abbrev mtX12_log : Mt := (RX12, prog_14_method_65_code, 4, (Option.some FieldType.int), [], "log")
abbrev mtX12_look : Mt := (RX12, prog_14_method_25_code, 4, (Option.some FieldType.int), [], "look")
abbrev mtX12_mends : Mt := (RX12, prog_14_method_69_code, 13, (Option.some FieldType.long), [], "mends")
abbrev mtX12_number : Mt := (RX12, prog_14_method_45_code, 2, (Option.some FieldType.int), [], "number")
abbrev mtX12_part : Mt := (RX12, prog_14_method_16_code, 2, (Option.some FieldType.int), [], "part")
abbrev mtX12_plainCond : Mt := (RX12, prog_14_method_18_code, 4, (Option.some FieldType.boolean), [], "plainCond")
abbrev mtX12_play : Mt := (RX12, prog_14_method_70_code, 11, (Option.some FieldType.int), [], "play")
abbrev mtX12_plays : Mt := (RX12, prog_14_method_26_code, 4, (Option.some FieldType.int), [], "plays")
abbrev mtX12_plays0 : Mt := (RX12, prog_14_method_51_code, 8, (none : Option FieldType), [], "plays0")
abbrev mtX12_point : Mt := (RX12, prog_14_method_38_code, 2, (none : Option FieldType), [], "point")
abbrev mtX12_puts : Mt := (RX12, prog_14_method_29_code, 2, (none : Option FieldType), [], "puts")
abbrev mtX12_rallies : Mt := (RX12, prog_14_method_41_code, 5, (none : Option FieldType), [], "rallies")
abbrev mtX12_rally : Mt := (RX12, prog_14_method_42_code, 4, (Option.some FieldType.int), [], "rally")
abbrev mtX12_refuses : Mt := (RX12, prog_14_method_53_code, 3, (Option.some FieldType.int), [], "refuses")
abbrev mtX12_rule : Mt := (RX12, prog_14_method_23_code, 4, (Option.some FieldType.int), [], "rule")
abbrev mtX12_ruleLine : Mt := (RX12, prog_14_method_22_code, 3, (none : Option FieldType), [], "ruleLine")
abbrev mtX12_saves : Mt := (RX12, prog_14_method_56_code, 10, (Option.some FieldType.int), [], "saves")
abbrev mtX12_score : Mt := (RX12, prog_14_method_31_code, 5, (none : Option FieldType), [], "score")
abbrev mtX12_set : Mt := (RX12, prog_14_method_60_code, 9, (Option.some FieldType.int), [], "set")
abbrev mtX12_setOf : Mt := (RX12, prog_14_method_59_code, 9, (Option.some FieldType.long), [], "setOf")
abbrev mtX12_skip : Mt := (RX12, prog_14_method_8_code, 1, (none : Option FieldType), [], "skip")
abbrev mtX12_some : Mt := (RX12, prog_14_method_21_code, 3, (Option.some FieldType.boolean), [], "some")
abbrev mtX12_stands : Mt := (RX12, prog_14_method_37_code, 2, (Option.some FieldType.int), [], "stands")
abbrev mtX12_style : Mt := (RX12, prog_14_method_30_code, 2, (Option.some FieldType.int), [], "style")
abbrev mtX12_styleOf : Mt := (RX12, prog_14_method_27_code, 3, (Option.some FieldType.int), [], "styleOf")
abbrev mtX12_sum : Mt := (RX12, prog_14_method_17_code, 2, (Option.some FieldType.int), [], "sum")
abbrev mtX12_takes : Mt := (RX12, prog_14_method_28_code, 2, (none : Option FieldType), [], "takes")
abbrev mtX12_takesBisque : Mt := (RX12, prog_14_method_43_code, 3, (none : Option FieldType), [], "takesBisque")
abbrev mtX12_thrown : Mt := (RX12, prog_14_method_2_code, 1, (Option.some FieldType.int), [], "thrown")
abbrev mtX12_told : Mt := (RX12, prog_14_method_36_code, 2, (Option.some FieldType.int), [], "told")
abbrev mtX12_unnumber : Mt := (RX12, prog_14_method_46_code, 3, (none : Option FieldType), [], "unnumber")
abbrev mtX12_unwhole : Mt := (RX12, prog_14_method_67_code, 2, (none : Option FieldType), [], "unwhole")
abbrev mtX12_ways : Mt := (RX12, prog_14_method_61_code, 5, (Option.some FieldType.int), [], "ways")
abbrev mtX12_whole : Mt := (RX12, prog_14_method_66_code, 1, (Option.some FieldType.int), [], "whole")
abbrev mtX12_worth : Mt := (RX12, prog_14_method_57_code, 5, (Option.some FieldType.int), [], "worth")
abbrev mtX12_wouldWin : Mt := (RX12, prog_14_method_34_code, 2, (Option.some FieldType.boolean), [], "wouldWin")
abbrev mtX12_wrong : Mt := (RX12, prog_14_method_11_code, 2, (none : Option FieldType), [], "wrong")
abbrev mtJ6_compare_7cf53 : Mt := (RJ6, prog_23_method_40_code, 2, (Option.some FieldType.int), [], "compare")
abbrev mtJ9_abs_0f7a4 : Mt := (RJ9, prog_24_method_59_code, 1, (Option.some FieldType.int), [], "abs")
abbrev mtJ9_max_7cf53 : Mt := (RJ9, prog_24_method_65_code, 2, (Option.some FieldType.int), [], "max")
abbrev mtJ9_min_7cf53 : Mt := (RJ9, prog_24_method_69_code, 2, (Option.some FieldType.int), [], "min")
abbrev mtJ0_charAt_5068e : Mt := (RJ0, prog_26_method_56_code, 2, (Option.some FieldType.char), [], "charAt")
abbrev mtJ0_checkIndex_df160 : Mt := (RJ0, prog_26_method_155_code, 2, (none : Option FieldType), [], "checkIndex")
abbrev mtJ0_coder_7d493 : Mt := (RJ0, prog_26_method_152_code, 1, (Option.some FieldType.byte), [], "coder")
abbrev mtJ0_isLatin1_aae02 : Mt := (RJ0, prog_26_method_154_code, 1, (Option.some FieldType.boolean), [], "isLatin1")
abbrev mtJ0_length_8abf5 : Mt := (RJ0, prog_26_method_54_code, 1, (Option.some FieldType.int), [], "length")
abbrev mtJ1_charAt_3b067 : Mt := (RJ1, prog_27_method_2_code, 2, (Option.some FieldType.char), [], "charAt")
abbrev mtJ2_charAt_3b067 : Mt := (RJ2, prog_28_method_83_code, 2, (Option.some FieldType.char), [], "charAt")
abbrev mtJ2_checkIndex_2214a : Mt := (RJ2, prog_28_method_91_code, 2, (none : Option FieldType), [], "checkIndex")
abbrev mtJ2_getChar_3b067 : Mt := (RJ2, prog_28_method_5_code, 2, (Option.some FieldType.char), [], "getChar")
abbrev mtJ2_length_9d52b : Mt := (RJ2, prog_28_method_6_code, 1, (Option.some FieldType.int), [], "length")
abbrev mtJ7_copyOf_59c91 : Mt := (RJ7, prog_34_method_123_code, 3, (Option.some (FieldType.array FieldType.int)), [], "copyOf")
abbrev mtJ7_copyOf_c38d5 : Mt := (RJ7, prog_34_method_124_code, 3, (Option.some (FieldType.array FieldType.long)), [], "copyOf")
abbrev mtJ7_fill_53178 : Mt := (RJ7, prog_34_method_103_code, 4, (none : Option FieldType), [], "fill")
abbrev mtJ3_checkIndex_8e157 : Mt := (RJ3, prog_36_method_11_code, 3, (Option.some FieldType.int), [], "checkIndex")
