theorem pm_d129_0 : (pm_chk 129 0).all (fun r => pm_okD prog_1_method_30_code r.1 r.2) = true := by decide +kernel
theorem pm_d129_1 : (pm_chk 129 1).all (fun r => pm_okD prog_1_method_30_code r.1 r.2) = true := by decide +kernel
theorem pm_D129 : ∀ k, (pm_chk 129 k).all (fun r => pm_okD prog_1_method_30_code r.1 r.2) = true := fun k => match k with
  | 0 => pm_d129_0
  | 1 => pm_d129_1
  | _ + 2 => rfl
theorem pm_d130_0 : (pm_chk 130 0).all (fun r => pm_okD prog_1_method_31_code r.1 r.2) = true := by decide +kernel
theorem pm_D130 : ∀ k, (pm_chk 130 k).all (fun r => pm_okD prog_1_method_31_code r.1 r.2) = true := fun k => match k with
  | 0 => pm_d130_0
  | _ + 1 => rfl
theorem pm_d131_0 : (pm_chk 131 0).all (fun r => pm_okD prog_7_method_2_code r.1 r.2) = true := by decide +kernel
theorem pm_d131_1 : (pm_chk 131 1).all (fun r => pm_okD prog_7_method_2_code r.1 r.2) = true := by decide +kernel
theorem pm_d131_2 : (pm_chk 131 2).all (fun r => pm_okD prog_7_method_2_code r.1 r.2) = true := by decide +kernel
theorem pm_d131_3 : (pm_chk 131 3).all (fun r => pm_okD prog_7_method_2_code r.1 r.2) = true := by decide +kernel
theorem pm_d131_4 : (pm_chk 131 4).all (fun r => pm_okD prog_7_method_2_code r.1 r.2) = true := by decide +kernel
theorem pm_d131_5 : (pm_chk 131 5).all (fun r => pm_okD prog_7_method_2_code r.1 r.2) = true := by decide +kernel
theorem pm_D131 : ∀ k, (pm_chk 131 k).all (fun r => pm_okD prog_7_method_2_code r.1 r.2) = true := fun k => match k with
  | 0 => pm_d131_0
  | 1 => pm_d131_1
  | 2 => pm_d131_2
  | 3 => pm_d131_3
  | 4 => pm_d131_4
  | 5 => pm_d131_5
  | _ + 6 => rfl
theorem pm_d132_0 : (pm_chk 132 0).all (fun r => pm_okD prog_6_method_14_code r.1 r.2) = true := by decide +kernel
theorem pm_d132_1 : (pm_chk 132 1).all (fun r => pm_okD prog_6_method_14_code r.1 r.2) = true := by decide +kernel
theorem pm_D132 : ∀ k, (pm_chk 132 k).all (fun r => pm_okD prog_6_method_14_code r.1 r.2) = true := fun k => match k with
  | 0 => pm_d132_0
  | 1 => pm_d132_1
  | _ + 2 => rfl
theorem pm_d133_0 : (pm_chk 133 0).all (fun r => pm_okD prog_7_method_3_code r.1 r.2) = true := by decide +kernel
theorem pm_d133_1 : (pm_chk 133 1).all (fun r => pm_okD prog_7_method_3_code r.1 r.2) = true := by decide +kernel
theorem pm_d133_2 : (pm_chk 133 2).all (fun r => pm_okD prog_7_method_3_code r.1 r.2) = true := by decide +kernel
theorem pm_d133_3 : (pm_chk 133 3).all (fun r => pm_okD prog_7_method_3_code r.1 r.2) = true := by decide +kernel
theorem pm_D133 : ∀ k, (pm_chk 133 k).all (fun r => pm_okD prog_7_method_3_code r.1 r.2) = true := fun k => match k with
  | 0 => pm_d133_0
  | 1 => pm_d133_1
  | 2 => pm_d133_2
  | 3 => pm_d133_3
  | _ + 4 => rfl
theorem pm_d134_0 : (pm_chk 134 0).all (fun r => pm_okD prog_1_method_25_code r.1 r.2) = true := by decide +kernel
theorem pm_d134_1 : (pm_chk 134 1).all (fun r => pm_okD prog_1_method_25_code r.1 r.2) = true := by decide +kernel
theorem pm_d134_2 : (pm_chk 134 2).all (fun r => pm_okD prog_1_method_25_code r.1 r.2) = true := by decide +kernel
theorem pm_D134 : ∀ k, (pm_chk 134 k).all (fun r => pm_okD prog_1_method_25_code r.1 r.2) = true := fun k => match k with
  | 0 => pm_d134_0
  | 1 => pm_d134_1
  | 2 => pm_d134_2
  | _ + 3 => rfl
theorem pm_d135_0 : (pm_chk 135 0).all (fun r => pm_okD prog_7_method_4_code r.1 r.2) = true := by decide +kernel
theorem pm_d135_1 : (pm_chk 135 1).all (fun r => pm_okD prog_7_method_4_code r.1 r.2) = true := by decide +kernel
theorem pm_D135 : ∀ k, (pm_chk 135 k).all (fun r => pm_okD prog_7_method_4_code r.1 r.2) = true := fun k => match k with
  | 0 => pm_d135_0
  | 1 => pm_d135_1
  | _ + 2 => rfl
theorem pm_d136_0 : (pm_chk 136 0).all (fun r => pm_okD prog_7_method_5_code r.1 r.2) = true := by decide +kernel
theorem pm_d136_1 : (pm_chk 136 1).all (fun r => pm_okD prog_7_method_5_code r.1 r.2) = true := by decide +kernel
theorem pm_D136 : ∀ k, (pm_chk 136 k).all (fun r => pm_okD prog_7_method_5_code r.1 r.2) = true := fun k => match k with
  | 0 => pm_d136_0
  | 1 => pm_d136_1
  | _ + 2 => rfl
theorem pm_d137_0 : (pm_chk 137 0).all (fun r => pm_okD prog_1_method_26_code r.1 r.2) = true := by decide +kernel
theorem pm_d137_1 : (pm_chk 137 1).all (fun r => pm_okD prog_1_method_26_code r.1 r.2) = true := by decide +kernel
theorem pm_D137 : ∀ k, (pm_chk 137 k).all (fun r => pm_okD prog_1_method_26_code r.1 r.2) = true := fun k => match k with
  | 0 => pm_d137_0
  | 1 => pm_d137_1
  | _ + 2 => rfl
theorem pm_d138_0 : (pm_chk 138 0).all (fun r => pm_okD prog_7_method_7_code r.1 r.2) = true := by decide +kernel
theorem pm_d138_1 : (pm_chk 138 1).all (fun r => pm_okD prog_7_method_7_code r.1 r.2) = true := by decide +kernel
theorem pm_d138_2 : (pm_chk 138 2).all (fun r => pm_okD prog_7_method_7_code r.1 r.2) = true := by decide +kernel
theorem pm_D138 : ∀ k, (pm_chk 138 k).all (fun r => pm_okD prog_7_method_7_code r.1 r.2) = true := fun k => match k with
  | 0 => pm_d138_0
  | 1 => pm_d138_1
  | 2 => pm_d138_2
  | _ + 3 => rfl
theorem pm_d139_0 : (pm_chk 139 0).all (fun r => pm_okD prog_7_method_6_code r.1 r.2) = true := by decide +kernel
theorem pm_D139 : ∀ k, (pm_chk 139 k).all (fun r => pm_okD prog_7_method_6_code r.1 r.2) = true := fun k => match k with
  | 0 => pm_d139_0
  | _ + 1 => rfl
theorem pm_d140_0 : (pm_chk 140 0).all (fun r => pm_okD prog_14_method_49_code r.1 r.2) = true := by decide +kernel
theorem pm_d140_1 : (pm_chk 140 1).all (fun r => pm_okD prog_14_method_49_code r.1 r.2) = true := by decide +kernel
theorem pm_D140 : ∀ k, (pm_chk 140 k).all (fun r => pm_okD prog_14_method_49_code r.1 r.2) = true := fun k => match k with
  | 0 => pm_d140_0
  | 1 => pm_d140_1
  | _ + 2 => rfl
theorem pm_d141_0 : (pm_chk 141 0).all (fun r => pm_okD prog_1_method_27_code r.1 r.2) = true := by decide +kernel
theorem pm_d141_1 : (pm_chk 141 1).all (fun r => pm_okD prog_1_method_27_code r.1 r.2) = true := by decide +kernel
theorem pm_D141 : ∀ k, (pm_chk 141 k).all (fun r => pm_okD prog_1_method_27_code r.1 r.2) = true := fun k => match k with
  | 0 => pm_d141_0
  | 1 => pm_d141_1
  | _ + 2 => rfl
theorem pm_d142_0 : (pm_chk 142 0).all (fun r => pm_okD prog_1_method_28_code r.1 r.2) = true := by decide +kernel
theorem pm_d142_1 : (pm_chk 142 1).all (fun r => pm_okD prog_1_method_28_code r.1 r.2) = true := by decide +kernel
theorem pm_d142_2 : (pm_chk 142 2).all (fun r => pm_okD prog_1_method_28_code r.1 r.2) = true := by decide +kernel
theorem pm_D142 : ∀ k, (pm_chk 142 k).all (fun r => pm_okD prog_1_method_28_code r.1 r.2) = true := fun k => match k with
  | 0 => pm_d142_0
  | 1 => pm_d142_1
  | 2 => pm_d142_2
  | _ + 3 => rfl
theorem pm_d143_0 : (pm_chk 143 0).all (fun r => pm_okD prog_4_method_2_code r.1 r.2) = true := by decide +kernel
theorem pm_d143_1 : (pm_chk 143 1).all (fun r => pm_okD prog_4_method_2_code r.1 r.2) = true := by decide +kernel
theorem pm_D143 : ∀ k, (pm_chk 143 k).all (fun r => pm_okD prog_4_method_2_code r.1 r.2) = true := fun k => match k with
  | 0 => pm_d143_0
  | 1 => pm_d143_1
  | _ + 2 => rfl
theorem pm_d144_0 : (pm_chk 144 0).all (fun r => pm_okD prog_4_method_3_code r.1 r.2) = true := by decide +kernel
theorem pm_d144_1 : (pm_chk 144 1).all (fun r => pm_okD prog_4_method_3_code r.1 r.2) = true := by decide +kernel
theorem pm_d144_2 : (pm_chk 144 2).all (fun r => pm_okD prog_4_method_3_code r.1 r.2) = true := by decide +kernel
theorem pm_d144_3 : (pm_chk 144 3).all (fun r => pm_okD prog_4_method_3_code r.1 r.2) = true := by decide +kernel
theorem pm_D144 : ∀ k, (pm_chk 144 k).all (fun r => pm_okD prog_4_method_3_code r.1 r.2) = true := fun k => match k with
  | 0 => pm_d144_0
  | 1 => pm_d144_1
  | 2 => pm_d144_2
  | 3 => pm_d144_3
  | _ + 4 => rfl
theorem pm_d145_0 : (pm_chk 145 0).all (fun r => pm_okD prog_1_method_29_code r.1 r.2) = true := by decide +kernel
theorem pm_d145_1 : (pm_chk 145 1).all (fun r => pm_okD prog_1_method_29_code r.1 r.2) = true := by decide +kernel
theorem pm_d145_2 : (pm_chk 145 2).all (fun r => pm_okD prog_1_method_29_code r.1 r.2) = true := by decide +kernel
theorem pm_D145 : ∀ k, (pm_chk 145 k).all (fun r => pm_okD prog_1_method_29_code r.1 r.2) = true := fun k => match k with
  | 0 => pm_d145_0
  | 1 => pm_d145_1
  | 2 => pm_d145_2
  | _ + 3 => rfl
theorem pm_d146_0 : (pm_chk 146 0).all (fun r => pm_okD prog_1_method_32_code r.1 r.2) = true := by decide +kernel
theorem pm_d146_1 : (pm_chk 146 1).all (fun r => pm_okD prog_1_method_32_code r.1 r.2) = true := by decide +kernel
theorem pm_D146 : ∀ k, (pm_chk 146 k).all (fun r => pm_okD prog_1_method_32_code r.1 r.2) = true := fun k => match k with
  | 0 => pm_d146_0
  | 1 => pm_d146_1
  | _ + 2 => rfl
theorem pm_d147_0 : (pm_chk 147 0).all (fun r => pm_okD prog_3_method_4_code r.1 r.2) = true := by decide +kernel
theorem pm_d147_1 : (pm_chk 147 1).all (fun r => pm_okD prog_3_method_4_code r.1 r.2) = true := by decide +kernel
theorem pm_d147_2 : (pm_chk 147 2).all (fun r => pm_okD prog_3_method_4_code r.1 r.2) = true := by decide +kernel
theorem pm_d147_3 : (pm_chk 147 3).all (fun r => pm_okD prog_3_method_4_code r.1 r.2) = true := by decide +kernel
theorem pm_d147_4 : (pm_chk 147 4).all (fun r => pm_okD prog_3_method_4_code r.1 r.2) = true := by decide +kernel
theorem pm_d147_5 : (pm_chk 147 5).all (fun r => pm_okD prog_3_method_4_code r.1 r.2) = true := by decide +kernel
theorem pm_D147 : ∀ k, (pm_chk 147 k).all (fun r => pm_okD prog_3_method_4_code r.1 r.2) = true := fun k => match k with
  | 0 => pm_d147_0
  | 1 => pm_d147_1
  | 2 => pm_d147_2
  | 3 => pm_d147_3
  | 4 => pm_d147_4
  | 5 => pm_d147_5
  | _ + 6 => rfl
theorem pm_d148_0 : (pm_chk 148 0).all (fun r => pm_okD prog_3_method_6_code r.1 r.2) = true := by decide +kernel
theorem pm_d148_1 : (pm_chk 148 1).all (fun r => pm_okD prog_3_method_6_code r.1 r.2) = true := by decide +kernel
theorem pm_D148 : ∀ k, (pm_chk 148 k).all (fun r => pm_okD prog_3_method_6_code r.1 r.2) = true := fun k => match k with
  | 0 => pm_d148_0
  | 1 => pm_d148_1
  | _ + 2 => rfl
theorem pm_d149_0 : (pm_chk 149 0).all (fun r => pm_okD prog_1_method_33_code r.1 r.2) = true := by decide +kernel
theorem pm_d149_1 : (pm_chk 149 1).all (fun r => pm_okD prog_1_method_33_code r.1 r.2) = true := by decide +kernel
theorem pm_D149 : ∀ k, (pm_chk 149 k).all (fun r => pm_okD prog_1_method_33_code r.1 r.2) = true := fun k => match k with
  | 0 => pm_d149_0
  | 1 => pm_d149_1
  | _ + 2 => rfl
theorem pm_d150_0 : (pm_chk 150 0).all (fun r => pm_okD prog_3_method_5_code r.1 r.2) = true := by decide +kernel
theorem pm_d150_1 : (pm_chk 150 1).all (fun r => pm_okD prog_3_method_5_code r.1 r.2) = true := by decide +kernel
theorem pm_d150_2 : (pm_chk 150 2).all (fun r => pm_okD prog_3_method_5_code r.1 r.2) = true := by decide +kernel
theorem pm_d150_3 : (pm_chk 150 3).all (fun r => pm_okD prog_3_method_5_code r.1 r.2) = true := by decide +kernel
theorem pm_d150_4 : (pm_chk 150 4).all (fun r => pm_okD prog_3_method_5_code r.1 r.2) = true := by decide +kernel
theorem pm_d150_5 : (pm_chk 150 5).all (fun r => pm_okD prog_3_method_5_code r.1 r.2) = true := by decide +kernel
theorem pm_D150 : ∀ k, (pm_chk 150 k).all (fun r => pm_okD prog_3_method_5_code r.1 r.2) = true := fun k => match k with
  | 0 => pm_d150_0
  | 1 => pm_d150_1
  | 2 => pm_d150_2
  | 3 => pm_d150_3
  | 4 => pm_d150_4
  | 5 => pm_d150_5
  | _ + 6 => rfl
theorem pm_d151_0 : (pm_chk 151 0).all (fun r => pm_okD prog_3_method_7_code r.1 r.2) = true := by decide +kernel
theorem pm_d151_1 : (pm_chk 151 1).all (fun r => pm_okD prog_3_method_7_code r.1 r.2) = true := by decide +kernel
theorem pm_D151 : ∀ k, (pm_chk 151 k).all (fun r => pm_okD prog_3_method_7_code r.1 r.2) = true := fun k => match k with
  | 0 => pm_d151_0
  | 1 => pm_d151_1
  | _ + 2 => rfl
theorem pm_d152_0 : (pm_chk 152 0).all (fun r => pm_okD prog_13_method_1_code r.1 r.2) = true := by decide +kernel
theorem pm_d152_1 : (pm_chk 152 1).all (fun r => pm_okD prog_13_method_1_code r.1 r.2) = true := by decide +kernel
theorem pm_d152_2 : (pm_chk 152 2).all (fun r => pm_okD prog_13_method_1_code r.1 r.2) = true := by decide +kernel
theorem pm_d152_3 : (pm_chk 152 3).all (fun r => pm_okD prog_13_method_1_code r.1 r.2) = true := by decide +kernel
theorem pm_d152_4 : (pm_chk 152 4).all (fun r => pm_okD prog_13_method_1_code r.1 r.2) = true := by decide +kernel
theorem pm_d152_5 : (pm_chk 152 5).all (fun r => pm_okD prog_13_method_1_code r.1 r.2) = true := by decide +kernel
theorem pm_d152_6 : (pm_chk 152 6).all (fun r => pm_okD prog_13_method_1_code r.1 r.2) = true := by decide +kernel
theorem pm_d152_7 : (pm_chk 152 7).all (fun r => pm_okD prog_13_method_1_code r.1 r.2) = true := by decide +kernel
theorem pm_d152_8 : (pm_chk 152 8).all (fun r => pm_okD prog_13_method_1_code r.1 r.2) = true := by decide +kernel
theorem pm_d152_9 : (pm_chk 152 9).all (fun r => pm_okD prog_13_method_1_code r.1 r.2) = true := by decide +kernel
theorem pm_d152_10 : (pm_chk 152 10).all (fun r => pm_okD prog_13_method_1_code r.1 r.2) = true := by decide +kernel
theorem pm_d152_11 : (pm_chk 152 11).all (fun r => pm_okD prog_13_method_1_code r.1 r.2) = true := by decide +kernel
theorem pm_d152_12 : (pm_chk 152 12).all (fun r => pm_okD prog_13_method_1_code r.1 r.2) = true := by decide +kernel
theorem pm_d152_13 : (pm_chk 152 13).all (fun r => pm_okD prog_13_method_1_code r.1 r.2) = true := by decide +kernel
theorem pm_d152_14 : (pm_chk 152 14).all (fun r => pm_okD prog_13_method_1_code r.1 r.2) = true := by decide +kernel
theorem pm_d152_15 : (pm_chk 152 15).all (fun r => pm_okD prog_13_method_1_code r.1 r.2) = true := by decide +kernel
theorem pm_d152_16 : (pm_chk 152 16).all (fun r => pm_okD prog_13_method_1_code r.1 r.2) = true := by decide +kernel
theorem pm_d152_17 : (pm_chk 152 17).all (fun r => pm_okD prog_13_method_1_code r.1 r.2) = true := by decide +kernel
theorem pm_D152 : ∀ k, (pm_chk 152 k).all (fun r => pm_okD prog_13_method_1_code r.1 r.2) = true := fun k => match k with
  | 0 => pm_d152_0
  | 1 => pm_d152_1
  | 2 => pm_d152_2
  | 3 => pm_d152_3
  | 4 => pm_d152_4
  | 5 => pm_d152_5
  | 6 => pm_d152_6
  | 7 => pm_d152_7
  | 8 => pm_d152_8
  | 9 => pm_d152_9
  | 10 => pm_d152_10
  | 11 => pm_d152_11
  | 12 => pm_d152_12
  | 13 => pm_d152_13
  | 14 => pm_d152_14
  | 15 => pm_d152_15
  | 16 => pm_d152_16
  | 17 => pm_d152_17
  | _ + 18 => rfl
theorem pm_d153_0 : (pm_chk 153 0).all (fun r => pm_okD prog_13_method_4_code r.1 r.2) = true := by decide +kernel
theorem pm_d153_1 : (pm_chk 153 1).all (fun r => pm_okD prog_13_method_4_code r.1 r.2) = true := by decide +kernel
theorem pm_D153 : ∀ k, (pm_chk 153 k).all (fun r => pm_okD prog_13_method_4_code r.1 r.2) = true := fun k => match k with
  | 0 => pm_d153_0
  | 1 => pm_d153_1
  | _ + 2 => rfl
theorem pm_d154_0 : (pm_chk 154 0).all (fun r => pm_okD prog_13_method_3_code r.1 r.2) = true := by decide +kernel
theorem pm_d154_1 : (pm_chk 154 1).all (fun r => pm_okD prog_13_method_3_code r.1 r.2) = true := by decide +kernel
theorem pm_D154 : ∀ k, (pm_chk 154 k).all (fun r => pm_okD prog_13_method_3_code r.1 r.2) = true := fun k => match k with
  | 0 => pm_d154_0
  | 1 => pm_d154_1
  | _ + 2 => rfl
theorem pm_d155_0 : (pm_chk 155 0).all (fun r => pm_okD prog_13_method_5_code r.1 r.2) = true := by decide +kernel
theorem pm_D155 : ∀ k, (pm_chk 155 k).all (fun r => pm_okD prog_13_method_5_code r.1 r.2) = true := fun k => match k with
  | 0 => pm_d155_0
  | _ + 1 => rfl
theorem pm_d156_0 : (pm_chk 156 0).all (fun r => pm_okD prog_13_method_39_code r.1 r.2) = true := by decide +kernel
theorem pm_d156_1 : (pm_chk 156 1).all (fun r => pm_okD prog_13_method_39_code r.1 r.2) = true := by decide +kernel
theorem pm_d156_2 : (pm_chk 156 2).all (fun r => pm_okD prog_13_method_39_code r.1 r.2) = true := by decide +kernel
theorem pm_d156_3 : (pm_chk 156 3).all (fun r => pm_okD prog_13_method_39_code r.1 r.2) = true := by decide +kernel
theorem pm_d156_4 : (pm_chk 156 4).all (fun r => pm_okD prog_13_method_39_code r.1 r.2) = true := by decide +kernel
theorem pm_d156_5 : (pm_chk 156 5).all (fun r => pm_okD prog_13_method_39_code r.1 r.2) = true := by decide +kernel
theorem pm_d156_6 : (pm_chk 156 6).all (fun r => pm_okD prog_13_method_39_code r.1 r.2) = true := by decide +kernel
theorem pm_D156 : ∀ k, (pm_chk 156 k).all (fun r => pm_okD prog_13_method_39_code r.1 r.2) = true := fun k => match k with
  | 0 => pm_d156_0
  | 1 => pm_d156_1
  | 2 => pm_d156_2
  | 3 => pm_d156_3
  | 4 => pm_d156_4
  | 5 => pm_d156_5
  | 6 => pm_d156_6
  | _ + 7 => rfl
theorem pm_d157_0 : (pm_chk 157 0).all (fun r => pm_okD prog_13_method_9_code r.1 r.2) = true := by decide +kernel
theorem pm_d157_1 : (pm_chk 157 1).all (fun r => pm_okD prog_13_method_9_code r.1 r.2) = true := by decide +kernel
theorem pm_d157_2 : (pm_chk 157 2).all (fun r => pm_okD prog_13_method_9_code r.1 r.2) = true := by decide +kernel
theorem pm_d157_3 : (pm_chk 157 3).all (fun r => pm_okD prog_13_method_9_code r.1 r.2) = true := by decide +kernel
theorem pm_d157_4 : (pm_chk 157 4).all (fun r => pm_okD prog_13_method_9_code r.1 r.2) = true := by decide +kernel
theorem pm_d157_5 : (pm_chk 157 5).all (fun r => pm_okD prog_13_method_9_code r.1 r.2) = true := by decide +kernel
theorem pm_d157_6 : (pm_chk 157 6).all (fun r => pm_okD prog_13_method_9_code r.1 r.2) = true := by decide +kernel
theorem pm_d157_7 : (pm_chk 157 7).all (fun r => pm_okD prog_13_method_9_code r.1 r.2) = true := by decide +kernel
theorem pm_d157_8 : (pm_chk 157 8).all (fun r => pm_okD prog_13_method_9_code r.1 r.2) = true := by decide +kernel
theorem pm_d157_9 : (pm_chk 157 9).all (fun r => pm_okD prog_13_method_9_code r.1 r.2) = true := by decide +kernel
theorem pm_d157_10 : (pm_chk 157 10).all (fun r => pm_okD prog_13_method_9_code r.1 r.2) = true := by decide +kernel
theorem pm_D157 : ∀ k, (pm_chk 157 k).all (fun r => pm_okD prog_13_method_9_code r.1 r.2) = true := fun k => match k with
  | 0 => pm_d157_0
  | 1 => pm_d157_1
  | 2 => pm_d157_2
  | 3 => pm_d157_3
  | 4 => pm_d157_4
  | 5 => pm_d157_5
  | 6 => pm_d157_6
  | 7 => pm_d157_7
  | 8 => pm_d157_8
  | 9 => pm_d157_9
  | 10 => pm_d157_10
  | _ + 11 => rfl
theorem pm_d158_0 : (pm_chk 158 0).all (fun r => pm_okD prog_13_method_7_code r.1 r.2) = true := by decide +kernel
theorem pm_D158 : ∀ k, (pm_chk 158 k).all (fun r => pm_okD prog_13_method_7_code r.1 r.2) = true := fun k => match k with
  | 0 => pm_d158_0
  | _ + 1 => rfl
theorem pm_d159_0 : (pm_chk 159 0).all (fun r => pm_okD prog_13_method_8_code r.1 r.2) = true := by decide +kernel
theorem pm_D159 : ∀ k, (pm_chk 159 k).all (fun r => pm_okD prog_13_method_8_code r.1 r.2) = true := fun k => match k with
  | 0 => pm_d159_0
  | _ + 1 => rfl
theorem pm_d160_0 : (pm_chk 160 0).all (fun r => pm_okD prog_13_method_6_code r.1 r.2) = true := by decide +kernel
theorem pm_D160 : ∀ k, (pm_chk 160 k).all (fun r => pm_okD prog_13_method_6_code r.1 r.2) = true := fun k => match k with
  | 0 => pm_d160_0
  | _ + 1 => rfl
theorem pm_d161_0 : (pm_chk 161 0).all (fun r => pm_okD prog_13_method_38_code r.1 r.2) = true := by decide +kernel
theorem pm_d161_1 : (pm_chk 161 1).all (fun r => pm_okD prog_13_method_38_code r.1 r.2) = true := by decide +kernel
theorem pm_d161_2 : (pm_chk 161 2).all (fun r => pm_okD prog_13_method_38_code r.1 r.2) = true := by decide +kernel
theorem pm_d161_3 : (pm_chk 161 3).all (fun r => pm_okD prog_13_method_38_code r.1 r.2) = true := by decide +kernel
theorem pm_d161_4 : (pm_chk 161 4).all (fun r => pm_okD prog_13_method_38_code r.1 r.2) = true := by decide +kernel
theorem pm_d161_5 : (pm_chk 161 5).all (fun r => pm_okD prog_13_method_38_code r.1 r.2) = true := by decide +kernel
theorem pm_d161_6 : (pm_chk 161 6).all (fun r => pm_okD prog_13_method_38_code r.1 r.2) = true := by decide +kernel
theorem pm_D161 : ∀ k, (pm_chk 161 k).all (fun r => pm_okD prog_13_method_38_code r.1 r.2) = true := fun k => match k with
  | 0 => pm_d161_0
  | 1 => pm_d161_1
  | 2 => pm_d161_2
  | 3 => pm_d161_3
  | 4 => pm_d161_4
  | 5 => pm_d161_5
  | 6 => pm_d161_6
  | _ + 7 => rfl
theorem pm_d162_0 : (pm_chk 162 0).all (fun r => pm_okD prog_13_method_11_code r.1 r.2) = true := by decide +kernel
theorem pm_D162 : ∀ k, (pm_chk 162 k).all (fun r => pm_okD prog_13_method_11_code r.1 r.2) = true := fun k => match k with
  | 0 => pm_d162_0
  | _ + 1 => rfl
theorem pm_d163_0 : (pm_chk 163 0).all (fun r => pm_okD prog_13_method_37_code r.1 r.2) = true := by decide +kernel
theorem pm_d163_1 : (pm_chk 163 1).all (fun r => pm_okD prog_13_method_37_code r.1 r.2) = true := by decide +kernel
theorem pm_d163_2 : (pm_chk 163 2).all (fun r => pm_okD prog_13_method_37_code r.1 r.2) = true := by decide +kernel
theorem pm_d163_3 : (pm_chk 163 3).all (fun r => pm_okD prog_13_method_37_code r.1 r.2) = true := by decide +kernel
theorem pm_d163_4 : (pm_chk 163 4).all (fun r => pm_okD prog_13_method_37_code r.1 r.2) = true := by decide +kernel
theorem pm_d163_5 : (pm_chk 163 5).all (fun r => pm_okD prog_13_method_37_code r.1 r.2) = true := by decide +kernel
theorem pm_d163_6 : (pm_chk 163 6).all (fun r => pm_okD prog_13_method_37_code r.1 r.2) = true := by decide +kernel
theorem pm_d163_7 : (pm_chk 163 7).all (fun r => pm_okD prog_13_method_37_code r.1 r.2) = true := by decide +kernel
theorem pm_D163 : ∀ k, (pm_chk 163 k).all (fun r => pm_okD prog_13_method_37_code r.1 r.2) = true := fun k => match k with
  | 0 => pm_d163_0
  | 1 => pm_d163_1
  | 2 => pm_d163_2
  | 3 => pm_d163_3
  | 4 => pm_d163_4
  | 5 => pm_d163_5
  | 6 => pm_d163_6
  | 7 => pm_d163_7
  | _ + 8 => rfl
theorem pm_d164_0 : (pm_chk 164 0).all (fun r => pm_okD prog_13_method_30_code r.1 r.2) = true := by decide +kernel
theorem pm_d164_1 : (pm_chk 164 1).all (fun r => pm_okD prog_13_method_30_code r.1 r.2) = true := by decide +kernel
theorem pm_D164 : ∀ k, (pm_chk 164 k).all (fun r => pm_okD prog_13_method_30_code r.1 r.2) = true := fun k => match k with
  | 0 => pm_d164_0
  | 1 => pm_d164_1
  | _ + 2 => rfl
theorem pm_d165_0 : (pm_chk 165 0).all (fun r => pm_okD prog_13_method_17_code r.1 r.2) = true := by decide +kernel
theorem pm_D165 : ∀ k, (pm_chk 165 k).all (fun r => pm_okD prog_13_method_17_code r.1 r.2) = true := fun k => match k with
  | 0 => pm_d165_0
  | _ + 1 => rfl
theorem pm_d166_0 : (pm_chk 166 0).all (fun r => pm_okD prog_13_method_16_code r.1 r.2) = true := by decide +kernel
theorem pm_d166_1 : (pm_chk 166 1).all (fun r => pm_okD prog_13_method_16_code r.1 r.2) = true := by decide +kernel
theorem pm_d166_2 : (pm_chk 166 2).all (fun r => pm_okD prog_13_method_16_code r.1 r.2) = true := by decide +kernel
theorem pm_d166_3 : (pm_chk 166 3).all (fun r => pm_okD prog_13_method_16_code r.1 r.2) = true := by decide +kernel
theorem pm_D166 : ∀ k, (pm_chk 166 k).all (fun r => pm_okD prog_13_method_16_code r.1 r.2) = true := fun k => match k with
  | 0 => pm_d166_0
  | 1 => pm_d166_1
  | 2 => pm_d166_2
  | 3 => pm_d166_3
  | _ + 4 => rfl
theorem pm_d167_0 : (pm_chk 167 0).all (fun r => pm_okD prog_13_method_13_code r.1 r.2) = true := by decide +kernel
theorem pm_d167_1 : (pm_chk 167 1).all (fun r => pm_okD prog_13_method_13_code r.1 r.2) = true := by decide +kernel
theorem pm_d167_2 : (pm_chk 167 2).all (fun r => pm_okD prog_13_method_13_code r.1 r.2) = true := by decide +kernel
theorem pm_d167_3 : (pm_chk 167 3).all (fun r => pm_okD prog_13_method_13_code r.1 r.2) = true := by decide +kernel
theorem pm_d167_4 : (pm_chk 167 4).all (fun r => pm_okD prog_13_method_13_code r.1 r.2) = true := by decide +kernel
theorem pm_d167_5 : (pm_chk 167 5).all (fun r => pm_okD prog_13_method_13_code r.1 r.2) = true := by decide +kernel
theorem pm_d167_6 : (pm_chk 167 6).all (fun r => pm_okD prog_13_method_13_code r.1 r.2) = true := by decide +kernel
theorem pm_d167_7 : (pm_chk 167 7).all (fun r => pm_okD prog_13_method_13_code r.1 r.2) = true := by decide +kernel
theorem pm_D167 : ∀ k, (pm_chk 167 k).all (fun r => pm_okD prog_13_method_13_code r.1 r.2) = true := fun k => match k with
  | 0 => pm_d167_0
  | 1 => pm_d167_1
  | 2 => pm_d167_2
  | 3 => pm_d167_3
  | 4 => pm_d167_4
  | 5 => pm_d167_5
  | 6 => pm_d167_6
  | 7 => pm_d167_7
  | _ + 8 => rfl
theorem pm_d168_0 : (pm_chk 168 0).all (fun r => pm_okD prog_13_method_14_code r.1 r.2) = true := by decide +kernel
theorem pm_d168_1 : (pm_chk 168 1).all (fun r => pm_okD prog_13_method_14_code r.1 r.2) = true := by decide +kernel
theorem pm_d168_2 : (pm_chk 168 2).all (fun r => pm_okD prog_13_method_14_code r.1 r.2) = true := by decide +kernel
theorem pm_d168_3 : (pm_chk 168 3).all (fun r => pm_okD prog_13_method_14_code r.1 r.2) = true := by decide +kernel
theorem pm_d168_4 : (pm_chk 168 4).all (fun r => pm_okD prog_13_method_14_code r.1 r.2) = true := by decide +kernel
theorem pm_D168 : ∀ k, (pm_chk 168 k).all (fun r => pm_okD prog_13_method_14_code r.1 r.2) = true := fun k => match k with
  | 0 => pm_d168_0
  | 1 => pm_d168_1
  | 2 => pm_d168_2
  | 3 => pm_d168_3
  | 4 => pm_d168_4
  | _ + 5 => rfl
theorem pm_d169_0 : (pm_chk 169 0).all (fun r => pm_okD prog_13_method_29_code r.1 r.2) = true := by decide +kernel
theorem pm_d169_1 : (pm_chk 169 1).all (fun r => pm_okD prog_13_method_29_code r.1 r.2) = true := by decide +kernel
theorem pm_d169_2 : (pm_chk 169 2).all (fun r => pm_okD prog_13_method_29_code r.1 r.2) = true := by decide +kernel
theorem pm_D169 : ∀ k, (pm_chk 169 k).all (fun r => pm_okD prog_13_method_29_code r.1 r.2) = true := fun k => match k with
  | 0 => pm_d169_0
  | 1 => pm_d169_1
  | 2 => pm_d169_2
  | _ + 3 => rfl
theorem pm_d170_0 : (pm_chk 170 0).all (fun r => pm_okD prog_13_method_23_code r.1 r.2) = true := by decide +kernel
theorem pm_d170_1 : (pm_chk 170 1).all (fun r => pm_okD prog_13_method_23_code r.1 r.2) = true := by decide +kernel
theorem pm_D170 : ∀ k, (pm_chk 170 k).all (fun r => pm_okD prog_13_method_23_code r.1 r.2) = true := fun k => match k with
  | 0 => pm_d170_0
  | 1 => pm_d170_1
  | _ + 2 => rfl
theorem pm_d171_0 : (pm_chk 171 0).all (fun r => pm_okD prog_13_method_27_code r.1 r.2) = true := by decide +kernel
theorem pm_d171_1 : (pm_chk 171 1).all (fun r => pm_okD prog_13_method_27_code r.1 r.2) = true := by decide +kernel
theorem pm_d171_2 : (pm_chk 171 2).all (fun r => pm_okD prog_13_method_27_code r.1 r.2) = true := by decide +kernel
theorem pm_d171_3 : (pm_chk 171 3).all (fun r => pm_okD prog_13_method_27_code r.1 r.2) = true := by decide +kernel
theorem pm_d171_4 : (pm_chk 171 4).all (fun r => pm_okD prog_13_method_27_code r.1 r.2) = true := by decide +kernel
theorem pm_d171_5 : (pm_chk 171 5).all (fun r => pm_okD prog_13_method_27_code r.1 r.2) = true := by decide +kernel
theorem pm_d171_6 : (pm_chk 171 6).all (fun r => pm_okD prog_13_method_27_code r.1 r.2) = true := by decide +kernel
theorem pm_d171_7 : (pm_chk 171 7).all (fun r => pm_okD prog_13_method_27_code r.1 r.2) = true := by decide +kernel
theorem pm_d171_8 : (pm_chk 171 8).all (fun r => pm_okD prog_13_method_27_code r.1 r.2) = true := by decide +kernel
theorem pm_d171_9 : (pm_chk 171 9).all (fun r => pm_okD prog_13_method_27_code r.1 r.2) = true := by decide +kernel
theorem pm_d171_10 : (pm_chk 171 10).all (fun r => pm_okD prog_13_method_27_code r.1 r.2) = true := by decide +kernel
theorem pm_D171 : ∀ k, (pm_chk 171 k).all (fun r => pm_okD prog_13_method_27_code r.1 r.2) = true := fun k => match k with
  | 0 => pm_d171_0
  | 1 => pm_d171_1
  | 2 => pm_d171_2
  | 3 => pm_d171_3
  | 4 => pm_d171_4
  | 5 => pm_d171_5
  | 6 => pm_d171_6
  | 7 => pm_d171_7
  | 8 => pm_d171_8
  | 9 => pm_d171_9
  | 10 => pm_d171_10
  | _ + 11 => rfl
theorem pm_d172_0 : (pm_chk 172 0).all (fun r => pm_okD prog_13_method_25_code r.1 r.2) = true := by decide +kernel
theorem pm_D172 : ∀ k, (pm_chk 172 k).all (fun r => pm_okD prog_13_method_25_code r.1 r.2) = true := fun k => match k with
  | 0 => pm_d172_0
  | _ + 1 => rfl
theorem pm_d173_0 : (pm_chk 173 0).all (fun r => pm_okD prog_13_method_22_code r.1 r.2) = true := by decide +kernel
theorem pm_D173 : ∀ k, (pm_chk 173 k).all (fun r => pm_okD prog_13_method_22_code r.1 r.2) = true := fun k => match k with
  | 0 => pm_d173_0
  | _ + 1 => rfl
theorem pm_d174_0 : (pm_chk 174 0).all (fun r => pm_okD prog_13_method_10_code r.1 r.2) = true := by decide +kernel
theorem pm_D174 : ∀ k, (pm_chk 174 k).all (fun r => pm_okD prog_13_method_10_code r.1 r.2) = true := fun k => match k with
  | 0 => pm_d174_0
  | _ + 1 => rfl
theorem pm_d175_0 : (pm_chk 175 0).all (fun r => pm_okD prog_13_method_24_code r.1 r.2) = true := by decide +kernel
theorem pm_d175_1 : (pm_chk 175 1).all (fun r => pm_okD prog_13_method_24_code r.1 r.2) = true := by decide +kernel
theorem pm_D175 : ∀ k, (pm_chk 175 k).all (fun r => pm_okD prog_13_method_24_code r.1 r.2) = true := fun k => match k with
  | 0 => pm_d175_0
  | 1 => pm_d175_1
  | _ + 2 => rfl
theorem pm_d176_0 : (pm_chk 176 0).all (fun r => pm_okD prog_13_method_19_code r.1 r.2) = true := by decide +kernel
theorem pm_d176_1 : (pm_chk 176 1).all (fun r => pm_okD prog_13_method_19_code r.1 r.2) = true := by decide +kernel
theorem pm_D176 : ∀ k, (pm_chk 176 k).all (fun r => pm_okD prog_13_method_19_code r.1 r.2) = true := fun k => match k with
  | 0 => pm_d176_0
  | 1 => pm_d176_1
  | _ + 2 => rfl
theorem pm_d177_0 : (pm_chk 177 0).all (fun r => pm_okD prog_13_method_26_code r.1 r.2) = true := by decide +kernel
theorem pm_d177_1 : (pm_chk 177 1).all (fun r => pm_okD prog_13_method_26_code r.1 r.2) = true := by decide +kernel
theorem pm_d177_2 : (pm_chk 177 2).all (fun r => pm_okD prog_13_method_26_code r.1 r.2) = true := by decide +kernel
theorem pm_d177_3 : (pm_chk 177 3).all (fun r => pm_okD prog_13_method_26_code r.1 r.2) = true := by decide +kernel
theorem pm_d177_4 : (pm_chk 177 4).all (fun r => pm_okD prog_13_method_26_code r.1 r.2) = true := by decide +kernel
theorem pm_d177_5 : (pm_chk 177 5).all (fun r => pm_okD prog_13_method_26_code r.1 r.2) = true := by decide +kernel
theorem pm_D177 : ∀ k, (pm_chk 177 k).all (fun r => pm_okD prog_13_method_26_code r.1 r.2) = true := fun k => match k with
  | 0 => pm_d177_0
  | 1 => pm_d177_1
  | 2 => pm_d177_2
  | 3 => pm_d177_3
  | 4 => pm_d177_4
  | 5 => pm_d177_5
  | _ + 6 => rfl
theorem pm_d178_0 : (pm_chk 178 0).all (fun r => pm_okD prog_13_method_28_code r.1 r.2) = true := by decide +kernel
theorem pm_d178_1 : (pm_chk 178 1).all (fun r => pm_okD prog_13_method_28_code r.1 r.2) = true := by decide +kernel
theorem pm_d178_2 : (pm_chk 178 2).all (fun r => pm_okD prog_13_method_28_code r.1 r.2) = true := by decide +kernel
theorem pm_d178_3 : (pm_chk 178 3).all (fun r => pm_okD prog_13_method_28_code r.1 r.2) = true := by decide +kernel
theorem pm_d178_4 : (pm_chk 178 4).all (fun r => pm_okD prog_13_method_28_code r.1 r.2) = true := by decide +kernel
theorem pm_d178_5 : (pm_chk 178 5).all (fun r => pm_okD prog_13_method_28_code r.1 r.2) = true := by decide +kernel
theorem pm_d178_6 : (pm_chk 178 6).all (fun r => pm_okD prog_13_method_28_code r.1 r.2) = true := by decide +kernel
theorem pm_d178_7 : (pm_chk 178 7).all (fun r => pm_okD prog_13_method_28_code r.1 r.2) = true := by decide +kernel
theorem pm_d178_8 : (pm_chk 178 8).all (fun r => pm_okD prog_13_method_28_code r.1 r.2) = true := by decide +kernel
theorem pm_d178_9 : (pm_chk 178 9).all (fun r => pm_okD prog_13_method_28_code r.1 r.2) = true := by decide +kernel
theorem pm_d178_10 : (pm_chk 178 10).all (fun r => pm_okD prog_13_method_28_code r.1 r.2) = true := by decide +kernel
theorem pm_d178_11 : (pm_chk 178 11).all (fun r => pm_okD prog_13_method_28_code r.1 r.2) = true := by decide +kernel
theorem pm_d178_12 : (pm_chk 178 12).all (fun r => pm_okD prog_13_method_28_code r.1 r.2) = true := by decide +kernel
theorem pm_d178_13 : (pm_chk 178 13).all (fun r => pm_okD prog_13_method_28_code r.1 r.2) = true := by decide +kernel
theorem pm_d178_14 : (pm_chk 178 14).all (fun r => pm_okD prog_13_method_28_code r.1 r.2) = true := by decide +kernel
theorem pm_d178_15 : (pm_chk 178 15).all (fun r => pm_okD prog_13_method_28_code r.1 r.2) = true := by decide +kernel
theorem pm_d178_16 : (pm_chk 178 16).all (fun r => pm_okD prog_13_method_28_code r.1 r.2) = true := by decide +kernel
theorem pm_d178_17 : (pm_chk 178 17).all (fun r => pm_okD prog_13_method_28_code r.1 r.2) = true := by decide +kernel
theorem pm_d178_18 : (pm_chk 178 18).all (fun r => pm_okD prog_13_method_28_code r.1 r.2) = true := by decide +kernel
theorem pm_D178 : ∀ k, (pm_chk 178 k).all (fun r => pm_okD prog_13_method_28_code r.1 r.2) = true := fun k => match k with
  | 0 => pm_d178_0
  | 1 => pm_d178_1
  | 2 => pm_d178_2
  | 3 => pm_d178_3
  | 4 => pm_d178_4
  | 5 => pm_d178_5
  | 6 => pm_d178_6
  | 7 => pm_d178_7
  | 8 => pm_d178_8
  | 9 => pm_d178_9
  | 10 => pm_d178_10
  | 11 => pm_d178_11
  | 12 => pm_d178_12
  | 13 => pm_d178_13
  | 14 => pm_d178_14
  | 15 => pm_d178_15
  | 16 => pm_d178_16
  | 17 => pm_d178_17
  | 18 => pm_d178_18
  | _ + 19 => rfl
