theorem pm_d179_0 : (pm_chk 179 0).all (fun r => pm_okD prog_13_method_21_code r.1 r.2) = true := by decide +kernel
theorem pm_d179_1 : (pm_chk 179 1).all (fun r => pm_okD prog_13_method_21_code r.1 r.2) = true := by decide +kernel
theorem pm_D179 : ∀ k, (pm_chk 179 k).all (fun r => pm_okD prog_13_method_21_code r.1 r.2) = true := fun k => match k with
  | 0 => pm_d179_0
  | 1 => pm_d179_1
  | _ + 2 => rfl
theorem pm_d180_0 : (pm_chk 180 0).all (fun r => pm_okD prog_13_method_20_code r.1 r.2) = true := by decide +kernel
theorem pm_d180_1 : (pm_chk 180 1).all (fun r => pm_okD prog_13_method_20_code r.1 r.2) = true := by decide +kernel
theorem pm_d180_2 : (pm_chk 180 2).all (fun r => pm_okD prog_13_method_20_code r.1 r.2) = true := by decide +kernel
theorem pm_D180 : ∀ k, (pm_chk 180 k).all (fun r => pm_okD prog_13_method_20_code r.1 r.2) = true := fun k => match k with
  | 0 => pm_d180_0
  | 1 => pm_d180_1
  | 2 => pm_d180_2
  | _ + 3 => rfl
theorem pm_d181_0 : (pm_chk 181 0).all (fun r => pm_okD prog_13_method_31_code r.1 r.2) = true := by decide +kernel
theorem pm_d181_1 : (pm_chk 181 1).all (fun r => pm_okD prog_13_method_31_code r.1 r.2) = true := by decide +kernel
theorem pm_D181 : ∀ k, (pm_chk 181 k).all (fun r => pm_okD prog_13_method_31_code r.1 r.2) = true := fun k => match k with
  | 0 => pm_d181_0
  | 1 => pm_d181_1
  | _ + 2 => rfl
theorem pm_d182_0 : (pm_chk 182 0).all (fun r => pm_okD prog_13_method_32_code r.1 r.2) = true := by decide +kernel
theorem pm_d182_1 : (pm_chk 182 1).all (fun r => pm_okD prog_13_method_32_code r.1 r.2) = true := by decide +kernel
theorem pm_d182_2 : (pm_chk 182 2).all (fun r => pm_okD prog_13_method_32_code r.1 r.2) = true := by decide +kernel
theorem pm_d182_3 : (pm_chk 182 3).all (fun r => pm_okD prog_13_method_32_code r.1 r.2) = true := by decide +kernel
theorem pm_d182_4 : (pm_chk 182 4).all (fun r => pm_okD prog_13_method_32_code r.1 r.2) = true := by decide +kernel
theorem pm_D182 : ∀ k, (pm_chk 182 k).all (fun r => pm_okD prog_13_method_32_code r.1 r.2) = true := fun k => match k with
  | 0 => pm_d182_0
  | 1 => pm_d182_1
  | 2 => pm_d182_2
  | 3 => pm_d182_3
  | 4 => pm_d182_4
  | _ + 5 => rfl
theorem pm_d183_0 : (pm_chk 183 0).all (fun r => pm_okD prog_13_method_15_code r.1 r.2) = true := by decide +kernel
theorem pm_d183_1 : (pm_chk 183 1).all (fun r => pm_okD prog_13_method_15_code r.1 r.2) = true := by decide +kernel
theorem pm_d183_2 : (pm_chk 183 2).all (fun r => pm_okD prog_13_method_15_code r.1 r.2) = true := by decide +kernel
theorem pm_d183_3 : (pm_chk 183 3).all (fun r => pm_okD prog_13_method_15_code r.1 r.2) = true := by decide +kernel
theorem pm_D183 : ∀ k, (pm_chk 183 k).all (fun r => pm_okD prog_13_method_15_code r.1 r.2) = true := fun k => match k with
  | 0 => pm_d183_0
  | 1 => pm_d183_1
  | 2 => pm_d183_2
  | 3 => pm_d183_3
  | _ + 4 => rfl
theorem pm_d184_0 : (pm_chk 184 0).all (fun r => pm_okD prog_13_method_33_code r.1 r.2) = true := by decide +kernel
theorem pm_d184_1 : (pm_chk 184 1).all (fun r => pm_okD prog_13_method_33_code r.1 r.2) = true := by decide +kernel
theorem pm_d184_2 : (pm_chk 184 2).all (fun r => pm_okD prog_13_method_33_code r.1 r.2) = true := by decide +kernel
theorem pm_d184_3 : (pm_chk 184 3).all (fun r => pm_okD prog_13_method_33_code r.1 r.2) = true := by decide +kernel
theorem pm_d184_4 : (pm_chk 184 4).all (fun r => pm_okD prog_13_method_33_code r.1 r.2) = true := by decide +kernel
theorem pm_D184 : ∀ k, (pm_chk 184 k).all (fun r => pm_okD prog_13_method_33_code r.1 r.2) = true := fun k => match k with
  | 0 => pm_d184_0
  | 1 => pm_d184_1
  | 2 => pm_d184_2
  | 3 => pm_d184_3
  | 4 => pm_d184_4
  | _ + 5 => rfl
theorem pm_d185_0 : (pm_chk 185 0).all (fun r => pm_okD prog_13_method_34_code r.1 r.2) = true := by decide +kernel
theorem pm_d185_1 : (pm_chk 185 1).all (fun r => pm_okD prog_13_method_34_code r.1 r.2) = true := by decide +kernel
theorem pm_d185_2 : (pm_chk 185 2).all (fun r => pm_okD prog_13_method_34_code r.1 r.2) = true := by decide +kernel
theorem pm_D185 : ∀ k, (pm_chk 185 k).all (fun r => pm_okD prog_13_method_34_code r.1 r.2) = true := fun k => match k with
  | 0 => pm_d185_0
  | 1 => pm_d185_1
  | 2 => pm_d185_2
  | _ + 3 => rfl
theorem pm_d186_0 : (pm_chk 186 0).all (fun r => pm_okD prog_13_method_35_code r.1 r.2) = true := by decide +kernel
theorem pm_d186_1 : (pm_chk 186 1).all (fun r => pm_okD prog_13_method_35_code r.1 r.2) = true := by decide +kernel
theorem pm_d186_2 : (pm_chk 186 2).all (fun r => pm_okD prog_13_method_35_code r.1 r.2) = true := by decide +kernel
theorem pm_D186 : ∀ k, (pm_chk 186 k).all (fun r => pm_okD prog_13_method_35_code r.1 r.2) = true := fun k => match k with
  | 0 => pm_d186_0
  | 1 => pm_d186_1
  | 2 => pm_d186_2
  | _ + 3 => rfl
theorem pm_d187_0 : (pm_chk 187 0).all (fun r => pm_okD prog_13_method_36_code r.1 r.2) = true := by decide +kernel
theorem pm_d187_1 : (pm_chk 187 1).all (fun r => pm_okD prog_13_method_36_code r.1 r.2) = true := by decide +kernel
theorem pm_d187_2 : (pm_chk 187 2).all (fun r => pm_okD prog_13_method_36_code r.1 r.2) = true := by decide +kernel
theorem pm_d187_3 : (pm_chk 187 3).all (fun r => pm_okD prog_13_method_36_code r.1 r.2) = true := by decide +kernel
theorem pm_D187 : ∀ k, (pm_chk 187 k).all (fun r => pm_okD prog_13_method_36_code r.1 r.2) = true := fun k => match k with
  | 0 => pm_d187_0
  | 1 => pm_d187_1
  | 2 => pm_d187_2
  | 3 => pm_d187_3
  | _ + 4 => rfl
theorem pm_d188_0 : (pm_chk 188 0).all (fun r => pm_okD prog_13_method_18_code r.1 r.2) = true := by decide +kernel
theorem pm_d188_1 : (pm_chk 188 1).all (fun r => pm_okD prog_13_method_18_code r.1 r.2) = true := by decide +kernel
theorem pm_d188_2 : (pm_chk 188 2).all (fun r => pm_okD prog_13_method_18_code r.1 r.2) = true := by decide +kernel
theorem pm_D188 : ∀ k, (pm_chk 188 k).all (fun r => pm_okD prog_13_method_18_code r.1 r.2) = true := fun k => match k with
  | 0 => pm_d188_0
  | 1 => pm_d188_1
  | 2 => pm_d188_2
  | _ + 3 => rfl
theorem pm_d189_0 : (pm_chk 189 0).all (fun r => pm_okD prog_13_method_2_code r.1 r.2) = true := by decide +kernel
theorem pm_D189 : ∀ k, (pm_chk 189 k).all (fun r => pm_okD prog_13_method_2_code r.1 r.2) = true := fun k => match k with
  | 0 => pm_d189_0
  | _ + 1 => rfl
theorem pm_d190_0 : (pm_chk 190 0).all (fun r => pm_okD prog_13_method_12_code r.1 r.2) = true := by decide +kernel
theorem pm_D190 : ∀ k, (pm_chk 190 k).all (fun r => pm_okD prog_13_method_12_code r.1 r.2) = true := fun k => match k with
  | 0 => pm_d190_0
  | _ + 1 => rfl
theorem pm_d191_0 : (pm_chk 191 0).all (fun r => pm_okD prog_13_method_47_code r.1 r.2) = true := by decide +kernel
theorem pm_d191_1 : (pm_chk 191 1).all (fun r => pm_okD prog_13_method_47_code r.1 r.2) = true := by decide +kernel
theorem pm_d191_2 : (pm_chk 191 2).all (fun r => pm_okD prog_13_method_47_code r.1 r.2) = true := by decide +kernel
theorem pm_d191_3 : (pm_chk 191 3).all (fun r => pm_okD prog_13_method_47_code r.1 r.2) = true := by decide +kernel
theorem pm_D191 : ∀ k, (pm_chk 191 k).all (fun r => pm_okD prog_13_method_47_code r.1 r.2) = true := fun k => match k with
  | 0 => pm_d191_0
  | 1 => pm_d191_1
  | 2 => pm_d191_2
  | 3 => pm_d191_3
  | _ + 4 => rfl
theorem pm_d192_0 : (pm_chk 192 0).all (fun r => pm_okD prog_13_method_40_code r.1 r.2) = true := by decide +kernel
theorem pm_D192 : ∀ k, (pm_chk 192 k).all (fun r => pm_okD prog_13_method_40_code r.1 r.2) = true := fun k => match k with
  | 0 => pm_d192_0
  | _ + 1 => rfl
theorem pm_d193_0 : (pm_chk 193 0).all (fun r => pm_okD prog_13_method_41_code r.1 r.2) = true := by decide +kernel
theorem pm_d193_1 : (pm_chk 193 1).all (fun r => pm_okD prog_13_method_41_code r.1 r.2) = true := by decide +kernel
theorem pm_d193_2 : (pm_chk 193 2).all (fun r => pm_okD prog_13_method_41_code r.1 r.2) = true := by decide +kernel
theorem pm_d193_3 : (pm_chk 193 3).all (fun r => pm_okD prog_13_method_41_code r.1 r.2) = true := by decide +kernel
theorem pm_d193_4 : (pm_chk 193 4).all (fun r => pm_okD prog_13_method_41_code r.1 r.2) = true := by decide +kernel
theorem pm_D193 : ∀ k, (pm_chk 193 k).all (fun r => pm_okD prog_13_method_41_code r.1 r.2) = true := fun k => match k with
  | 0 => pm_d193_0
  | 1 => pm_d193_1
  | 2 => pm_d193_2
  | 3 => pm_d193_3
  | 4 => pm_d193_4
  | _ + 5 => rfl
theorem pm_d194_0 : (pm_chk 194 0).all (fun r => pm_okD prog_13_method_46_code r.1 r.2) = true := by decide +kernel
theorem pm_d194_1 : (pm_chk 194 1).all (fun r => pm_okD prog_13_method_46_code r.1 r.2) = true := by decide +kernel
theorem pm_d194_2 : (pm_chk 194 2).all (fun r => pm_okD prog_13_method_46_code r.1 r.2) = true := by decide +kernel
theorem pm_d194_3 : (pm_chk 194 3).all (fun r => pm_okD prog_13_method_46_code r.1 r.2) = true := by decide +kernel
theorem pm_D194 : ∀ k, (pm_chk 194 k).all (fun r => pm_okD prog_13_method_46_code r.1 r.2) = true := fun k => match k with
  | 0 => pm_d194_0
  | 1 => pm_d194_1
  | 2 => pm_d194_2
  | 3 => pm_d194_3
  | _ + 4 => rfl
theorem pm_d195_0 : (pm_chk 195 0).all (fun r => pm_okD prog_13_method_43_code r.1 r.2) = true := by decide +kernel
theorem pm_D195 : ∀ k, (pm_chk 195 k).all (fun r => pm_okD prog_13_method_43_code r.1 r.2) = true := fun k => match k with
  | 0 => pm_d195_0
  | _ + 1 => rfl
theorem pm_d196_0 : (pm_chk 196 0).all (fun r => pm_okD prog_13_method_42_code r.1 r.2) = true := by decide +kernel
theorem pm_d196_1 : (pm_chk 196 1).all (fun r => pm_okD prog_13_method_42_code r.1 r.2) = true := by decide +kernel
theorem pm_D196 : ∀ k, (pm_chk 196 k).all (fun r => pm_okD prog_13_method_42_code r.1 r.2) = true := fun k => match k with
  | 0 => pm_d196_0
  | 1 => pm_d196_1
  | _ + 2 => rfl
theorem pm_d197_0 : (pm_chk 197 0).all (fun r => pm_okD prog_13_method_44_code r.1 r.2) = true := by decide +kernel
theorem pm_D197 : ∀ k, (pm_chk 197 k).all (fun r => pm_okD prog_13_method_44_code r.1 r.2) = true := fun k => match k with
  | 0 => pm_d197_0
  | _ + 1 => rfl
theorem pm_d198_0 : (pm_chk 198 0).all (fun r => pm_okD prog_13_method_45_code r.1 r.2) = true := by decide +kernel
theorem pm_D198 : ∀ k, (pm_chk 198 k).all (fun r => pm_okD prog_13_method_45_code r.1 r.2) = true := fun k => match k with
  | 0 => pm_d198_0
  | _ + 1 => rfl
theorem pm_d199_0 : (pm_chk 199 0).all (fun r => pm_okD prog_13_method_49_code r.1 r.2) = true := by decide +kernel
theorem pm_D199 : ∀ k, (pm_chk 199 k).all (fun r => pm_okD prog_13_method_49_code r.1 r.2) = true := fun k => match k with
  | 0 => pm_d199_0
  | _ + 1 => rfl
theorem pm_d200_0 : (pm_chk 200 0).all (fun r => pm_okD prog_13_method_50_code r.1 r.2) = true := by decide +kernel
theorem pm_D200 : ∀ k, (pm_chk 200 k).all (fun r => pm_okD prog_13_method_50_code r.1 r.2) = true := fun k => match k with
  | 0 => pm_d200_0
  | _ + 1 => rfl
theorem pm_d201_0 : (pm_chk 201 0).all (fun r => pm_okD prog_13_method_51_code r.1 r.2) = true := by decide +kernel
theorem pm_d201_1 : (pm_chk 201 1).all (fun r => pm_okD prog_13_method_51_code r.1 r.2) = true := by decide +kernel
theorem pm_D201 : ∀ k, (pm_chk 201 k).all (fun r => pm_okD prog_13_method_51_code r.1 r.2) = true := fun k => match k with
  | 0 => pm_d201_0
  | 1 => pm_d201_1
  | _ + 2 => rfl
theorem pm_d202_0 : (pm_chk 202 0).all (fun r => pm_okD prog_13_method_52_code r.1 r.2) = true := by decide +kernel
theorem pm_D202 : ∀ k, (pm_chk 202 k).all (fun r => pm_okD prog_13_method_52_code r.1 r.2) = true := fun k => match k with
  | 0 => pm_d202_0
  | _ + 1 => rfl
theorem pm_d203_0 : (pm_chk 203 0).all (fun r => pm_okD prog_13_method_72_code r.1 r.2) = true := by decide +kernel
theorem pm_D203 : ∀ k, (pm_chk 203 k).all (fun r => pm_okD prog_13_method_72_code r.1 r.2) = true := fun k => match k with
  | 0 => pm_d203_0
  | _ + 1 => rfl
theorem pm_d204_0 : (pm_chk 204 0).all (fun r => pm_okD prog_13_method_48_code r.1 r.2) = true := by decide +kernel
theorem pm_d204_1 : (pm_chk 204 1).all (fun r => pm_okD prog_13_method_48_code r.1 r.2) = true := by decide +kernel
theorem pm_d204_2 : (pm_chk 204 2).all (fun r => pm_okD prog_13_method_48_code r.1 r.2) = true := by decide +kernel
theorem pm_D204 : ∀ k, (pm_chk 204 k).all (fun r => pm_okD prog_13_method_48_code r.1 r.2) = true := fun k => match k with
  | 0 => pm_d204_0
  | 1 => pm_d204_1
  | 2 => pm_d204_2
  | _ + 3 => rfl
theorem pm_d205_0 : (pm_chk 205 0).all (fun r => pm_okD prog_13_method_71_code r.1 r.2) = true := by decide +kernel
theorem pm_d205_1 : (pm_chk 205 1).all (fun r => pm_okD prog_13_method_71_code r.1 r.2) = true := by decide +kernel
theorem pm_d205_2 : (pm_chk 205 2).all (fun r => pm_okD prog_13_method_71_code r.1 r.2) = true := by decide +kernel
theorem pm_d205_3 : (pm_chk 205 3).all (fun r => pm_okD prog_13_method_71_code r.1 r.2) = true := by decide +kernel
theorem pm_d205_4 : (pm_chk 205 4).all (fun r => pm_okD prog_13_method_71_code r.1 r.2) = true := by decide +kernel
theorem pm_d205_5 : (pm_chk 205 5).all (fun r => pm_okD prog_13_method_71_code r.1 r.2) = true := by decide +kernel
theorem pm_d205_6 : (pm_chk 205 6).all (fun r => pm_okD prog_13_method_71_code r.1 r.2) = true := by decide +kernel
theorem pm_d205_7 : (pm_chk 205 7).all (fun r => pm_okD prog_13_method_71_code r.1 r.2) = true := by decide +kernel
theorem pm_D205 : ∀ k, (pm_chk 205 k).all (fun r => pm_okD prog_13_method_71_code r.1 r.2) = true := fun k => match k with
  | 0 => pm_d205_0
  | 1 => pm_d205_1
  | 2 => pm_d205_2
  | 3 => pm_d205_3
  | 4 => pm_d205_4
  | 5 => pm_d205_5
  | 6 => pm_d205_6
  | 7 => pm_d205_7
  | _ + 8 => rfl
theorem pm_d206_0 : (pm_chk 206 0).all (fun r => pm_okD prog_13_method_53_code r.1 r.2) = true := by decide +kernel
theorem pm_D206 : ∀ k, (pm_chk 206 k).all (fun r => pm_okD prog_13_method_53_code r.1 r.2) = true := fun k => match k with
  | 0 => pm_d206_0
  | _ + 1 => rfl
theorem pm_d207_0 : (pm_chk 207 0).all (fun r => pm_okD prog_13_method_68_code r.1 r.2) = true := by decide +kernel
theorem pm_d207_1 : (pm_chk 207 1).all (fun r => pm_okD prog_13_method_68_code r.1 r.2) = true := by decide +kernel
theorem pm_d207_2 : (pm_chk 207 2).all (fun r => pm_okD prog_13_method_68_code r.1 r.2) = true := by decide +kernel
theorem pm_d207_3 : (pm_chk 207 3).all (fun r => pm_okD prog_13_method_68_code r.1 r.2) = true := by decide +kernel
theorem pm_d207_4 : (pm_chk 207 4).all (fun r => pm_okD prog_13_method_68_code r.1 r.2) = true := by decide +kernel
theorem pm_d207_5 : (pm_chk 207 5).all (fun r => pm_okD prog_13_method_68_code r.1 r.2) = true := by decide +kernel
theorem pm_D207 : ∀ k, (pm_chk 207 k).all (fun r => pm_okD prog_13_method_68_code r.1 r.2) = true := fun k => match k with
  | 0 => pm_d207_0
  | 1 => pm_d207_1
  | 2 => pm_d207_2
  | 3 => pm_d207_3
  | 4 => pm_d207_4
  | 5 => pm_d207_5
  | _ + 6 => rfl
theorem pm_d208_0 : (pm_chk 208 0).all (fun r => pm_okD prog_13_method_67_code r.1 r.2) = true := by decide +kernel
theorem pm_d208_1 : (pm_chk 208 1).all (fun r => pm_okD prog_13_method_67_code r.1 r.2) = true := by decide +kernel
theorem pm_D208 : ∀ k, (pm_chk 208 k).all (fun r => pm_okD prog_13_method_67_code r.1 r.2) = true := fun k => match k with
  | 0 => pm_d208_0
  | 1 => pm_d208_1
  | _ + 2 => rfl
theorem pm_d209_0 : (pm_chk 209 0).all (fun r => pm_okD prog_13_method_66_code r.1 r.2) = true := by decide +kernel
theorem pm_d209_1 : (pm_chk 209 1).all (fun r => pm_okD prog_13_method_66_code r.1 r.2) = true := by decide +kernel
theorem pm_D209 : ∀ k, (pm_chk 209 k).all (fun r => pm_okD prog_13_method_66_code r.1 r.2) = true := fun k => match k with
  | 0 => pm_d209_0
  | 1 => pm_d209_1
  | _ + 2 => rfl
theorem pm_d210_0 : (pm_chk 210 0).all (fun r => pm_okD prog_13_method_59_code r.1 r.2) = true := by decide +kernel
theorem pm_d210_1 : (pm_chk 210 1).all (fun r => pm_okD prog_13_method_59_code r.1 r.2) = true := by decide +kernel
theorem pm_d210_2 : (pm_chk 210 2).all (fun r => pm_okD prog_13_method_59_code r.1 r.2) = true := by decide +kernel
theorem pm_d210_3 : (pm_chk 210 3).all (fun r => pm_okD prog_13_method_59_code r.1 r.2) = true := by decide +kernel
theorem pm_d210_4 : (pm_chk 210 4).all (fun r => pm_okD prog_13_method_59_code r.1 r.2) = true := by decide +kernel
theorem pm_D210 : ∀ k, (pm_chk 210 k).all (fun r => pm_okD prog_13_method_59_code r.1 r.2) = true := fun k => match k with
  | 0 => pm_d210_0
  | 1 => pm_d210_1
  | 2 => pm_d210_2
  | 3 => pm_d210_3
  | 4 => pm_d210_4
  | _ + 5 => rfl
theorem pm_d211_0 : (pm_chk 211 0).all (fun r => pm_okD prog_13_method_58_code r.1 r.2) = true := by decide +kernel
theorem pm_d211_1 : (pm_chk 211 1).all (fun r => pm_okD prog_13_method_58_code r.1 r.2) = true := by decide +kernel
theorem pm_d211_2 : (pm_chk 211 2).all (fun r => pm_okD prog_13_method_58_code r.1 r.2) = true := by decide +kernel
theorem pm_d211_3 : (pm_chk 211 3).all (fun r => pm_okD prog_13_method_58_code r.1 r.2) = true := by decide +kernel
theorem pm_d211_4 : (pm_chk 211 4).all (fun r => pm_okD prog_13_method_58_code r.1 r.2) = true := by decide +kernel
theorem pm_d211_5 : (pm_chk 211 5).all (fun r => pm_okD prog_13_method_58_code r.1 r.2) = true := by decide +kernel
theorem pm_d211_6 : (pm_chk 211 6).all (fun r => pm_okD prog_13_method_58_code r.1 r.2) = true := by decide +kernel
theorem pm_D211 : ∀ k, (pm_chk 211 k).all (fun r => pm_okD prog_13_method_58_code r.1 r.2) = true := fun k => match k with
  | 0 => pm_d211_0
  | 1 => pm_d211_1
  | 2 => pm_d211_2
  | 3 => pm_d211_3
  | 4 => pm_d211_4
  | 5 => pm_d211_5
  | 6 => pm_d211_6
  | _ + 7 => rfl
theorem pm_d212_0 : (pm_chk 212 0).all (fun r => pm_okD prog_13_method_57_code r.1 r.2) = true := by decide +kernel
theorem pm_d212_1 : (pm_chk 212 1).all (fun r => pm_okD prog_13_method_57_code r.1 r.2) = true := by decide +kernel
theorem pm_d212_2 : (pm_chk 212 2).all (fun r => pm_okD prog_13_method_57_code r.1 r.2) = true := by decide +kernel
theorem pm_D212 : ∀ k, (pm_chk 212 k).all (fun r => pm_okD prog_13_method_57_code r.1 r.2) = true := fun k => match k with
  | 0 => pm_d212_0
  | 1 => pm_d212_1
  | 2 => pm_d212_2
  | _ + 3 => rfl
theorem pm_d213_0 : (pm_chk 213 0).all (fun r => pm_okD prog_13_method_56_code r.1 r.2) = true := by decide +kernel
theorem pm_d213_1 : (pm_chk 213 1).all (fun r => pm_okD prog_13_method_56_code r.1 r.2) = true := by decide +kernel
theorem pm_d213_2 : (pm_chk 213 2).all (fun r => pm_okD prog_13_method_56_code r.1 r.2) = true := by decide +kernel
theorem pm_d213_3 : (pm_chk 213 3).all (fun r => pm_okD prog_13_method_56_code r.1 r.2) = true := by decide +kernel
theorem pm_d213_4 : (pm_chk 213 4).all (fun r => pm_okD prog_13_method_56_code r.1 r.2) = true := by decide +kernel
theorem pm_d213_5 : (pm_chk 213 5).all (fun r => pm_okD prog_13_method_56_code r.1 r.2) = true := by decide +kernel
theorem pm_D213 : ∀ k, (pm_chk 213 k).all (fun r => pm_okD prog_13_method_56_code r.1 r.2) = true := fun k => match k with
  | 0 => pm_d213_0
  | 1 => pm_d213_1
  | 2 => pm_d213_2
  | 3 => pm_d213_3
  | 4 => pm_d213_4
  | 5 => pm_d213_5
  | _ + 6 => rfl
theorem pm_d214_0 : (pm_chk 214 0).all (fun r => pm_okD prog_13_method_54_code r.1 r.2) = true := by decide +kernel
theorem pm_D214 : ∀ k, (pm_chk 214 k).all (fun r => pm_okD prog_13_method_54_code r.1 r.2) = true := fun k => match k with
  | 0 => pm_d214_0
  | _ + 1 => rfl
theorem pm_d215_0 : (pm_chk 215 0).all (fun r => pm_okD prog_13_method_55_code r.1 r.2) = true := by decide +kernel
theorem pm_d215_1 : (pm_chk 215 1).all (fun r => pm_okD prog_13_method_55_code r.1 r.2) = true := by decide +kernel
theorem pm_D215 : ∀ k, (pm_chk 215 k).all (fun r => pm_okD prog_13_method_55_code r.1 r.2) = true := fun k => match k with
  | 0 => pm_d215_0
  | 1 => pm_d215_1
  | _ + 2 => rfl
theorem pm_d216_0 : (pm_chk 216 0).all (fun r => pm_okD prog_13_method_65_code r.1 r.2) = true := by decide +kernel
theorem pm_d216_1 : (pm_chk 216 1).all (fun r => pm_okD prog_13_method_65_code r.1 r.2) = true := by decide +kernel
theorem pm_d216_2 : (pm_chk 216 2).all (fun r => pm_okD prog_13_method_65_code r.1 r.2) = true := by decide +kernel
theorem pm_d216_3 : (pm_chk 216 3).all (fun r => pm_okD prog_13_method_65_code r.1 r.2) = true := by decide +kernel
theorem pm_d216_4 : (pm_chk 216 4).all (fun r => pm_okD prog_13_method_65_code r.1 r.2) = true := by decide +kernel
theorem pm_d216_5 : (pm_chk 216 5).all (fun r => pm_okD prog_13_method_65_code r.1 r.2) = true := by decide +kernel
theorem pm_D216 : ∀ k, (pm_chk 216 k).all (fun r => pm_okD prog_13_method_65_code r.1 r.2) = true := fun k => match k with
  | 0 => pm_d216_0
  | 1 => pm_d216_1
  | 2 => pm_d216_2
  | 3 => pm_d216_3
  | 4 => pm_d216_4
  | 5 => pm_d216_5
  | _ + 6 => rfl
theorem pm_d217_0 : (pm_chk 217 0).all (fun r => pm_okD prog_13_method_61_code r.1 r.2) = true := by decide +kernel
theorem pm_d217_1 : (pm_chk 217 1).all (fun r => pm_okD prog_13_method_61_code r.1 r.2) = true := by decide +kernel
theorem pm_d217_2 : (pm_chk 217 2).all (fun r => pm_okD prog_13_method_61_code r.1 r.2) = true := by decide +kernel
theorem pm_d217_3 : (pm_chk 217 3).all (fun r => pm_okD prog_13_method_61_code r.1 r.2) = true := by decide +kernel
theorem pm_D217 : ∀ k, (pm_chk 217 k).all (fun r => pm_okD prog_13_method_61_code r.1 r.2) = true := fun k => match k with
  | 0 => pm_d217_0
  | 1 => pm_d217_1
  | 2 => pm_d217_2
  | 3 => pm_d217_3
  | _ + 4 => rfl
theorem pm_d218_0 : (pm_chk 218 0).all (fun r => pm_okD prog_13_method_60_code r.1 r.2) = true := by decide +kernel
theorem pm_d218_1 : (pm_chk 218 1).all (fun r => pm_okD prog_13_method_60_code r.1 r.2) = true := by decide +kernel
theorem pm_d218_2 : (pm_chk 218 2).all (fun r => pm_okD prog_13_method_60_code r.1 r.2) = true := by decide +kernel
theorem pm_d218_3 : (pm_chk 218 3).all (fun r => pm_okD prog_13_method_60_code r.1 r.2) = true := by decide +kernel
theorem pm_d218_4 : (pm_chk 218 4).all (fun r => pm_okD prog_13_method_60_code r.1 r.2) = true := by decide +kernel
theorem pm_D218 : ∀ k, (pm_chk 218 k).all (fun r => pm_okD prog_13_method_60_code r.1 r.2) = true := fun k => match k with
  | 0 => pm_d218_0
  | 1 => pm_d218_1
  | 2 => pm_d218_2
  | 3 => pm_d218_3
  | 4 => pm_d218_4
  | _ + 5 => rfl
theorem pm_d219_0 : (pm_chk 219 0).all (fun r => pm_okD prog_13_method_62_code r.1 r.2) = true := by decide +kernel
theorem pm_d219_1 : (pm_chk 219 1).all (fun r => pm_okD prog_13_method_62_code r.1 r.2) = true := by decide +kernel
theorem pm_d219_2 : (pm_chk 219 2).all (fun r => pm_okD prog_13_method_62_code r.1 r.2) = true := by decide +kernel
theorem pm_d219_3 : (pm_chk 219 3).all (fun r => pm_okD prog_13_method_62_code r.1 r.2) = true := by decide +kernel
theorem pm_D219 : ∀ k, (pm_chk 219 k).all (fun r => pm_okD prog_13_method_62_code r.1 r.2) = true := fun k => match k with
  | 0 => pm_d219_0
  | 1 => pm_d219_1
  | 2 => pm_d219_2
  | 3 => pm_d219_3
  | _ + 4 => rfl
theorem pm_d220_0 : (pm_chk 220 0).all (fun r => pm_okD prog_13_method_63_code r.1 r.2) = true := by decide +kernel
theorem pm_d220_1 : (pm_chk 220 1).all (fun r => pm_okD prog_13_method_63_code r.1 r.2) = true := by decide +kernel
theorem pm_d220_2 : (pm_chk 220 2).all (fun r => pm_okD prog_13_method_63_code r.1 r.2) = true := by decide +kernel
theorem pm_D220 : ∀ k, (pm_chk 220 k).all (fun r => pm_okD prog_13_method_63_code r.1 r.2) = true := fun k => match k with
  | 0 => pm_d220_0
  | 1 => pm_d220_1
  | 2 => pm_d220_2
  | _ + 3 => rfl
theorem pm_d221_0 : (pm_chk 221 0).all (fun r => pm_okD prog_13_method_64_code r.1 r.2) = true := by decide +kernel
theorem pm_d221_1 : (pm_chk 221 1).all (fun r => pm_okD prog_13_method_64_code r.1 r.2) = true := by decide +kernel
theorem pm_d221_2 : (pm_chk 221 2).all (fun r => pm_okD prog_13_method_64_code r.1 r.2) = true := by decide +kernel
theorem pm_d221_3 : (pm_chk 221 3).all (fun r => pm_okD prog_13_method_64_code r.1 r.2) = true := by decide +kernel
theorem pm_d221_4 : (pm_chk 221 4).all (fun r => pm_okD prog_13_method_64_code r.1 r.2) = true := by decide +kernel
theorem pm_d221_5 : (pm_chk 221 5).all (fun r => pm_okD prog_13_method_64_code r.1 r.2) = true := by decide +kernel
theorem pm_d221_6 : (pm_chk 221 6).all (fun r => pm_okD prog_13_method_64_code r.1 r.2) = true := by decide +kernel
theorem pm_D221 : ∀ k, (pm_chk 221 k).all (fun r => pm_okD prog_13_method_64_code r.1 r.2) = true := fun k => match k with
  | 0 => pm_d221_0
  | 1 => pm_d221_1
  | 2 => pm_d221_2
  | 3 => pm_d221_3
  | 4 => pm_d221_4
  | 5 => pm_d221_5
  | 6 => pm_d221_6
  | _ + 7 => rfl
theorem pm_d222_0 : (pm_chk 222 0).all (fun r => pm_okD prog_13_method_69_code r.1 r.2) = true := by decide +kernel
theorem pm_d222_1 : (pm_chk 222 1).all (fun r => pm_okD prog_13_method_69_code r.1 r.2) = true := by decide +kernel
theorem pm_d222_2 : (pm_chk 222 2).all (fun r => pm_okD prog_13_method_69_code r.1 r.2) = true := by decide +kernel
theorem pm_d222_3 : (pm_chk 222 3).all (fun r => pm_okD prog_13_method_69_code r.1 r.2) = true := by decide +kernel
theorem pm_d222_4 : (pm_chk 222 4).all (fun r => pm_okD prog_13_method_69_code r.1 r.2) = true := by decide +kernel
theorem pm_d222_5 : (pm_chk 222 5).all (fun r => pm_okD prog_13_method_69_code r.1 r.2) = true := by decide +kernel
theorem pm_d222_6 : (pm_chk 222 6).all (fun r => pm_okD prog_13_method_69_code r.1 r.2) = true := by decide +kernel
theorem pm_D222 : ∀ k, (pm_chk 222 k).all (fun r => pm_okD prog_13_method_69_code r.1 r.2) = true := fun k => match k with
  | 0 => pm_d222_0
  | 1 => pm_d222_1
  | 2 => pm_d222_2
  | 3 => pm_d222_3
  | 4 => pm_d222_4
  | 5 => pm_d222_5
  | 6 => pm_d222_6
  | _ + 7 => rfl
theorem pm_d223_0 : (pm_chk 223 0).all (fun r => pm_okD prog_13_method_70_code r.1 r.2) = true := by decide +kernel
theorem pm_d223_1 : (pm_chk 223 1).all (fun r => pm_okD prog_13_method_70_code r.1 r.2) = true := by decide +kernel
theorem pm_d223_2 : (pm_chk 223 2).all (fun r => pm_okD prog_13_method_70_code r.1 r.2) = true := by decide +kernel
theorem pm_D223 : ∀ k, (pm_chk 223 k).all (fun r => pm_okD prog_13_method_70_code r.1 r.2) = true := fun k => match k with
  | 0 => pm_d223_0
  | 1 => pm_d223_1
  | 2 => pm_d223_2
  | _ + 3 => rfl
theorem pm_d224_0 : (pm_chk 224 0).all (fun r => pm_okD prog_13_method_74_code r.1 r.2) = true := by decide +kernel
theorem pm_d224_1 : (pm_chk 224 1).all (fun r => pm_okD prog_13_method_74_code r.1 r.2) = true := by decide +kernel
theorem pm_D224 : ∀ k, (pm_chk 224 k).all (fun r => pm_okD prog_13_method_74_code r.1 r.2) = true := fun k => match k with
  | 0 => pm_d224_0
  | 1 => pm_d224_1
  | _ + 2 => rfl
theorem pm_d225_0 : (pm_chk 225 0).all (fun r => pm_okD prog_13_method_73_code r.1 r.2) = true := by decide +kernel
theorem pm_D225 : ∀ k, (pm_chk 225 k).all (fun r => pm_okD prog_13_method_73_code r.1 r.2) = true := fun k => match k with
  | 0 => pm_d225_0
  | _ + 1 => rfl
theorem pm_d226_0 : (pm_chk 226 0).all (fun r => pm_okD prog_13_method_75_code r.1 r.2) = true := by decide +kernel
theorem pm_d226_1 : (pm_chk 226 1).all (fun r => pm_okD prog_13_method_75_code r.1 r.2) = true := by decide +kernel
theorem pm_D226 : ∀ k, (pm_chk 226 k).all (fun r => pm_okD prog_13_method_75_code r.1 r.2) = true := fun k => match k with
  | 0 => pm_d226_0
  | 1 => pm_d226_1
  | _ + 2 => rfl
theorem pm_d227_0 : (pm_chk 227 0).all (fun r => pm_okD prog_13_method_76_code r.1 r.2) = true := by decide +kernel
theorem pm_d227_1 : (pm_chk 227 1).all (fun r => pm_okD prog_13_method_76_code r.1 r.2) = true := by decide +kernel
theorem pm_D227 : ∀ k, (pm_chk 227 k).all (fun r => pm_okD prog_13_method_76_code r.1 r.2) = true := fun k => match k with
  | 0 => pm_d227_0
  | 1 => pm_d227_1
  | _ + 2 => rfl
theorem pm_d228_0 : (pm_chk 228 0).all (fun r => pm_okD prog_13_method_77_code r.1 r.2) = true := by decide +kernel
theorem pm_d228_1 : (pm_chk 228 1).all (fun r => pm_okD prog_13_method_77_code r.1 r.2) = true := by decide +kernel
theorem pm_D228 : ∀ k, (pm_chk 228 k).all (fun r => pm_okD prog_13_method_77_code r.1 r.2) = true := fun k => match k with
  | 0 => pm_d228_0
  | 1 => pm_d228_1
  | _ + 2 => rfl
theorem pm_d229_0 : (pm_chk 229 0).all (fun r => pm_okD prog_13_method_78_code r.1 r.2) = true := by decide +kernel
theorem pm_d229_1 : (pm_chk 229 1).all (fun r => pm_okD prog_13_method_78_code r.1 r.2) = true := by decide +kernel
theorem pm_D229 : ∀ k, (pm_chk 229 k).all (fun r => pm_okD prog_13_method_78_code r.1 r.2) = true := fun k => match k with
  | 0 => pm_d229_0
  | 1 => pm_d229_1
  | _ + 2 => rfl
theorem pm_d230_0 : (pm_chk 230 0).all (fun r => pm_okD prog_13_method_79_code r.1 r.2) = true := by decide +kernel
theorem pm_d230_1 : (pm_chk 230 1).all (fun r => pm_okD prog_13_method_79_code r.1 r.2) = true := by decide +kernel
theorem pm_D230 : ∀ k, (pm_chk 230 k).all (fun r => pm_okD prog_13_method_79_code r.1 r.2) = true := fun k => match k with
  | 0 => pm_d230_0
  | 1 => pm_d230_1
  | _ + 2 => rfl
theorem pm_d231_0 : (pm_chk 231 0).all (fun r => pm_okD prog_13_method_80_code r.1 r.2) = true := by decide +kernel
theorem pm_d231_1 : (pm_chk 231 1).all (fun r => pm_okD prog_13_method_80_code r.1 r.2) = true := by decide +kernel
theorem pm_D231 : ∀ k, (pm_chk 231 k).all (fun r => pm_okD prog_13_method_80_code r.1 r.2) = true := fun k => match k with
  | 0 => pm_d231_0
  | 1 => pm_d231_1
  | _ + 2 => rfl
theorem pm_d232_0 : (pm_chk 232 0).all (fun r => pm_okD prog_13_method_81_code r.1 r.2) = true := by decide +kernel
theorem pm_d232_1 : (pm_chk 232 1).all (fun r => pm_okD prog_13_method_81_code r.1 r.2) = true := by decide +kernel
theorem pm_D232 : ∀ k, (pm_chk 232 k).all (fun r => pm_okD prog_13_method_81_code r.1 r.2) = true := fun k => match k with
  | 0 => pm_d232_0
  | 1 => pm_d232_1
  | _ + 2 => rfl
theorem pm_d233_0 : (pm_chk 233 0).all (fun r => pm_okD prog_13_method_82_code r.1 r.2) = true := by decide +kernel
theorem pm_d233_1 : (pm_chk 233 1).all (fun r => pm_okD prog_13_method_82_code r.1 r.2) = true := by decide +kernel
theorem pm_D233 : ∀ k, (pm_chk 233 k).all (fun r => pm_okD prog_13_method_82_code r.1 r.2) = true := fun k => match k with
  | 0 => pm_d233_0
  | 1 => pm_d233_1
  | _ + 2 => rfl
theorem pm_d234_0 : (pm_chk 234 0).all (fun r => pm_okD prog_13_method_83_code r.1 r.2) = true := by decide +kernel
theorem pm_d234_1 : (pm_chk 234 1).all (fun r => pm_okD prog_13_method_83_code r.1 r.2) = true := by decide +kernel
theorem pm_d234_2 : (pm_chk 234 2).all (fun r => pm_okD prog_13_method_83_code r.1 r.2) = true := by decide +kernel
theorem pm_d234_3 : (pm_chk 234 3).all (fun r => pm_okD prog_13_method_83_code r.1 r.2) = true := by decide +kernel
theorem pm_d234_4 : (pm_chk 234 4).all (fun r => pm_okD prog_13_method_83_code r.1 r.2) = true := by decide +kernel
theorem pm_D234 : ∀ k, (pm_chk 234 k).all (fun r => pm_okD prog_13_method_83_code r.1 r.2) = true := fun k => match k with
  | 0 => pm_d234_0
  | 1 => pm_d234_1
  | 2 => pm_d234_2
  | 3 => pm_d234_3
  | 4 => pm_d234_4
  | _ + 5 => rfl
theorem pm_d235_0 : (pm_chk 235 0).all (fun r => pm_okD prog_13_method_94_code r.1 r.2) = true := by decide +kernel
theorem pm_d235_1 : (pm_chk 235 1).all (fun r => pm_okD prog_13_method_94_code r.1 r.2) = true := by decide +kernel
theorem pm_D235 : ∀ k, (pm_chk 235 k).all (fun r => pm_okD prog_13_method_94_code r.1 r.2) = true := fun k => match k with
  | 0 => pm_d235_0
  | 1 => pm_d235_1
  | _ + 2 => rfl
theorem pm_d236_0 : (pm_chk 236 0).all (fun r => pm_okD prog_13_method_92_code r.1 r.2) = true := by decide +kernel
theorem pm_D236 : ∀ k, (pm_chk 236 k).all (fun r => pm_okD prog_13_method_92_code r.1 r.2) = true := fun k => match k with
  | 0 => pm_d236_0
  | _ + 1 => rfl
theorem pm_d237_0 : (pm_chk 237 0).all (fun r => pm_okD prog_13_method_84_code r.1 r.2) = true := by decide +kernel
theorem pm_d237_1 : (pm_chk 237 1).all (fun r => pm_okD prog_13_method_84_code r.1 r.2) = true := by decide +kernel
theorem pm_D237 : ∀ k, (pm_chk 237 k).all (fun r => pm_okD prog_13_method_84_code r.1 r.2) = true := fun k => match k with
  | 0 => pm_d237_0
  | 1 => pm_d237_1
  | _ + 2 => rfl
theorem pm_d238_0 : (pm_chk 238 0).all (fun r => pm_okD prog_13_method_93_code r.1 r.2) = true := by decide +kernel
theorem pm_D238 : ∀ k, (pm_chk 238 k).all (fun r => pm_okD prog_13_method_93_code r.1 r.2) = true := fun k => match k with
  | 0 => pm_d238_0
  | _ + 1 => rfl
theorem pm_d239_0 : (pm_chk 239 0).all (fun r => pm_okD prog_13_method_90_code r.1 r.2) = true := by decide +kernel
theorem pm_D239 : ∀ k, (pm_chk 239 k).all (fun r => pm_okD prog_13_method_90_code r.1 r.2) = true := fun k => match k with
  | 0 => pm_d239_0
  | _ + 1 => rfl
theorem pm_d240_0 : (pm_chk 240 0).all (fun r => pm_okD prog_13_method_85_code r.1 r.2) = true := by decide +kernel
theorem pm_d240_1 : (pm_chk 240 1).all (fun r => pm_okD prog_13_method_85_code r.1 r.2) = true := by decide +kernel
theorem pm_D240 : ∀ k, (pm_chk 240 k).all (fun r => pm_okD prog_13_method_85_code r.1 r.2) = true := fun k => match k with
  | 0 => pm_d240_0
  | 1 => pm_d240_1
  | _ + 2 => rfl
theorem pm_d241_0 : (pm_chk 241 0).all (fun r => pm_okD prog_13_method_86_code r.1 r.2) = true := by decide +kernel
theorem pm_d241_1 : (pm_chk 241 1).all (fun r => pm_okD prog_13_method_86_code r.1 r.2) = true := by decide +kernel
theorem pm_d241_2 : (pm_chk 241 2).all (fun r => pm_okD prog_13_method_86_code r.1 r.2) = true := by decide +kernel
theorem pm_d241_3 : (pm_chk 241 3).all (fun r => pm_okD prog_13_method_86_code r.1 r.2) = true := by decide +kernel
theorem pm_d241_4 : (pm_chk 241 4).all (fun r => pm_okD prog_13_method_86_code r.1 r.2) = true := by decide +kernel
theorem pm_D241 : ∀ k, (pm_chk 241 k).all (fun r => pm_okD prog_13_method_86_code r.1 r.2) = true := fun k => match k with
  | 0 => pm_d241_0
  | 1 => pm_d241_1
  | 2 => pm_d241_2
  | 3 => pm_d241_3
  | 4 => pm_d241_4
  | _ + 5 => rfl
theorem pm_d242_0 : (pm_chk 242 0).all (fun r => pm_okD prog_13_method_95_code r.1 r.2) = true := by decide +kernel
theorem pm_d242_1 : (pm_chk 242 1).all (fun r => pm_okD prog_13_method_95_code r.1 r.2) = true := by decide +kernel
theorem pm_d242_2 : (pm_chk 242 2).all (fun r => pm_okD prog_13_method_95_code r.1 r.2) = true := by decide +kernel
theorem pm_D242 : ∀ k, (pm_chk 242 k).all (fun r => pm_okD prog_13_method_95_code r.1 r.2) = true := fun k => match k with
  | 0 => pm_d242_0
  | 1 => pm_d242_1
  | 2 => pm_d242_2
  | _ + 3 => rfl
theorem pm_d243_0 : (pm_chk 243 0).all (fun r => pm_okD prog_13_method_88_code r.1 r.2) = true := by decide +kernel
theorem pm_d243_1 : (pm_chk 243 1).all (fun r => pm_okD prog_13_method_88_code r.1 r.2) = true := by decide +kernel
theorem pm_d243_2 : (pm_chk 243 2).all (fun r => pm_okD prog_13_method_88_code r.1 r.2) = true := by decide +kernel
theorem pm_d243_3 : (pm_chk 243 3).all (fun r => pm_okD prog_13_method_88_code r.1 r.2) = true := by decide +kernel
theorem pm_d243_4 : (pm_chk 243 4).all (fun r => pm_okD prog_13_method_88_code r.1 r.2) = true := by decide +kernel
theorem pm_D243 : ∀ k, (pm_chk 243 k).all (fun r => pm_okD prog_13_method_88_code r.1 r.2) = true := fun k => match k with
  | 0 => pm_d243_0
  | 1 => pm_d243_1
  | 2 => pm_d243_2
  | 3 => pm_d243_3
  | 4 => pm_d243_4
  | _ + 5 => rfl
theorem pm_d244_0 : (pm_chk 244 0).all (fun r => pm_okD prog_13_method_87_code r.1 r.2) = true := by decide +kernel
theorem pm_d244_1 : (pm_chk 244 1).all (fun r => pm_okD prog_13_method_87_code r.1 r.2) = true := by decide +kernel
theorem pm_d244_2 : (pm_chk 244 2).all (fun r => pm_okD prog_13_method_87_code r.1 r.2) = true := by decide +kernel
theorem pm_D244 : ∀ k, (pm_chk 244 k).all (fun r => pm_okD prog_13_method_87_code r.1 r.2) = true := fun k => match k with
  | 0 => pm_d244_0
  | 1 => pm_d244_1
  | 2 => pm_d244_2
  | _ + 3 => rfl
theorem pm_d245_0 : (pm_chk 245 0).all (fun r => pm_okD prog_13_method_96_code r.1 r.2) = true := by decide +kernel
theorem pm_d245_1 : (pm_chk 245 1).all (fun r => pm_okD prog_13_method_96_code r.1 r.2) = true := by decide +kernel
theorem pm_D245 : ∀ k, (pm_chk 245 k).all (fun r => pm_okD prog_13_method_96_code r.1 r.2) = true := fun k => match k with
  | 0 => pm_d245_0
  | 1 => pm_d245_1
  | _ + 2 => rfl
theorem pm_d246_0 : (pm_chk 246 0).all (fun r => pm_okD prog_13_method_91_code r.1 r.2) = true := by decide +kernel
theorem pm_d246_1 : (pm_chk 246 1).all (fun r => pm_okD prog_13_method_91_code r.1 r.2) = true := by decide +kernel
theorem pm_d246_2 : (pm_chk 246 2).all (fun r => pm_okD prog_13_method_91_code r.1 r.2) = true := by decide +kernel
theorem pm_D246 : ∀ k, (pm_chk 246 k).all (fun r => pm_okD prog_13_method_91_code r.1 r.2) = true := fun k => match k with
  | 0 => pm_d246_0
  | 1 => pm_d246_1
  | 2 => pm_d246_2
  | _ + 3 => rfl
theorem pm_d247_0 : (pm_chk 247 0).all (fun r => pm_okD prog_13_method_89_code r.1 r.2) = true := by decide +kernel
theorem pm_D247 : ∀ k, (pm_chk 247 k).all (fun r => pm_okD prog_13_method_89_code r.1 r.2) = true := fun k => match k with
  | 0 => pm_d247_0
  | _ + 1 => rfl
theorem pm_d248_0 : (pm_chk 248 0).all (fun r => pm_okD prog_13_method_98_code r.1 r.2) = true := by decide +kernel
theorem pm_D248 : ∀ k, (pm_chk 248 k).all (fun r => pm_okD prog_13_method_98_code r.1 r.2) = true := fun k => match k with
  | 0 => pm_d248_0
  | _ + 1 => rfl
theorem pm_d249_0 : (pm_chk 249 0).all (fun r => pm_okD prog_13_method_97_code r.1 r.2) = true := by decide +kernel
theorem pm_D249 : ∀ k, (pm_chk 249 k).all (fun r => pm_okD prog_13_method_97_code r.1 r.2) = true := fun k => match k with
  | 0 => pm_d249_0
  | _ + 1 => rfl
theorem pm_d250_0 : (pm_chk 250 0).all (fun r => pm_okD prog_13_method_103_code r.1 r.2) = true := by decide +kernel
theorem pm_d250_1 : (pm_chk 250 1).all (fun r => pm_okD prog_13_method_103_code r.1 r.2) = true := by decide +kernel
theorem pm_D250 : ∀ k, (pm_chk 250 k).all (fun r => pm_okD prog_13_method_103_code r.1 r.2) = true := fun k => match k with
  | 0 => pm_d250_0
  | 1 => pm_d250_1
  | _ + 2 => rfl
theorem pm_d251_0 : (pm_chk 251 0).all (fun r => pm_okD prog_13_method_102_code r.1 r.2) = true := by decide +kernel
theorem pm_d251_1 : (pm_chk 251 1).all (fun r => pm_okD prog_13_method_102_code r.1 r.2) = true := by decide +kernel
theorem pm_D251 : ∀ k, (pm_chk 251 k).all (fun r => pm_okD prog_13_method_102_code r.1 r.2) = true := fun k => match k with
  | 0 => pm_d251_0
  | 1 => pm_d251_1
  | _ + 2 => rfl
theorem pm_d252_0 : (pm_chk 252 0).all (fun r => pm_okD prog_13_method_100_code r.1 r.2) = true := by decide +kernel
theorem pm_d252_1 : (pm_chk 252 1).all (fun r => pm_okD prog_13_method_100_code r.1 r.2) = true := by decide +kernel
theorem pm_D252 : ∀ k, (pm_chk 252 k).all (fun r => pm_okD prog_13_method_100_code r.1 r.2) = true := fun k => match k with
  | 0 => pm_d252_0
  | 1 => pm_d252_1
  | _ + 2 => rfl
theorem pm_d253_0 : (pm_chk 253 0).all (fun r => pm_okD prog_13_method_99_code r.1 r.2) = true := by decide +kernel
theorem pm_d253_1 : (pm_chk 253 1).all (fun r => pm_okD prog_13_method_99_code r.1 r.2) = true := by decide +kernel
theorem pm_D253 : ∀ k, (pm_chk 253 k).all (fun r => pm_okD prog_13_method_99_code r.1 r.2) = true := fun k => match k with
  | 0 => pm_d253_0
  | 1 => pm_d253_1
  | _ + 2 => rfl
theorem pm_d254_0 : (pm_chk 254 0).all (fun r => pm_okD prog_13_method_101_code r.1 r.2) = true := by decide +kernel
theorem pm_d254_1 : (pm_chk 254 1).all (fun r => pm_okD prog_13_method_101_code r.1 r.2) = true := by decide +kernel
theorem pm_d254_2 : (pm_chk 254 2).all (fun r => pm_okD prog_13_method_101_code r.1 r.2) = true := by decide +kernel
theorem pm_d254_3 : (pm_chk 254 3).all (fun r => pm_okD prog_13_method_101_code r.1 r.2) = true := by decide +kernel
theorem pm_d254_4 : (pm_chk 254 4).all (fun r => pm_okD prog_13_method_101_code r.1 r.2) = true := by decide +kernel
theorem pm_D254 : ∀ k, (pm_chk 254 k).all (fun r => pm_okD prog_13_method_101_code r.1 r.2) = true := fun k => match k with
  | 0 => pm_d254_0
  | 1 => pm_d254_1
  | 2 => pm_d254_2
  | 3 => pm_d254_3
  | 4 => pm_d254_4
  | _ + 5 => rfl
theorem pm_d255_0 : (pm_chk 255 0).all (fun r => pm_okD prog_13_method_104_code r.1 r.2) = true := by decide +kernel
theorem pm_D255 : ∀ k, (pm_chk 255 k).all (fun r => pm_okD prog_13_method_104_code r.1 r.2) = true := fun k => match k with
  | 0 => pm_d255_0
  | _ + 1 => rfl
theorem pm_d256_0 : (pm_chk 256 0).all (fun r => pm_okD prog_13_method_106_code r.1 r.2) = true := by decide +kernel
theorem pm_d256_1 : (pm_chk 256 1).all (fun r => pm_okD prog_13_method_106_code r.1 r.2) = true := by decide +kernel
theorem pm_d256_2 : (pm_chk 256 2).all (fun r => pm_okD prog_13_method_106_code r.1 r.2) = true := by decide +kernel
theorem pm_D256 : ∀ k, (pm_chk 256 k).all (fun r => pm_okD prog_13_method_106_code r.1 r.2) = true := fun k => match k with
  | 0 => pm_d256_0
  | 1 => pm_d256_1
  | 2 => pm_d256_2
  | _ + 3 => rfl
theorem pm_d257_0 : (pm_chk 257 0).all (fun r => pm_okD prog_13_method_105_code r.1 r.2) = true := by decide +kernel
theorem pm_d257_1 : (pm_chk 257 1).all (fun r => pm_okD prog_13_method_105_code r.1 r.2) = true := by decide +kernel
theorem pm_d257_2 : (pm_chk 257 2).all (fun r => pm_okD prog_13_method_105_code r.1 r.2) = true := by decide +kernel
theorem pm_d257_3 : (pm_chk 257 3).all (fun r => pm_okD prog_13_method_105_code r.1 r.2) = true := by decide +kernel
theorem pm_d257_4 : (pm_chk 257 4).all (fun r => pm_okD prog_13_method_105_code r.1 r.2) = true := by decide +kernel
theorem pm_d257_5 : (pm_chk 257 5).all (fun r => pm_okD prog_13_method_105_code r.1 r.2) = true := by decide +kernel
theorem pm_d257_6 : (pm_chk 257 6).all (fun r => pm_okD prog_13_method_105_code r.1 r.2) = true := by decide +kernel
theorem pm_D257 : ∀ k, (pm_chk 257 k).all (fun r => pm_okD prog_13_method_105_code r.1 r.2) = true := fun k => match k with
  | 0 => pm_d257_0
  | 1 => pm_d257_1
  | 2 => pm_d257_2
  | 3 => pm_d257_3
  | 4 => pm_d257_4
  | 5 => pm_d257_5
  | 6 => pm_d257_6
  | _ + 7 => rfl
theorem pm_d258_0 : (pm_chk 258 0).all (fun r => pm_okD prog_13_method_107_code r.1 r.2) = true := by decide +kernel
theorem pm_d258_1 : (pm_chk 258 1).all (fun r => pm_okD prog_13_method_107_code r.1 r.2) = true := by decide +kernel
theorem pm_d258_2 : (pm_chk 258 2).all (fun r => pm_okD prog_13_method_107_code r.1 r.2) = true := by decide +kernel
theorem pm_d258_3 : (pm_chk 258 3).all (fun r => pm_okD prog_13_method_107_code r.1 r.2) = true := by decide +kernel
theorem pm_d258_4 : (pm_chk 258 4).all (fun r => pm_okD prog_13_method_107_code r.1 r.2) = true := by decide +kernel
theorem pm_d258_5 : (pm_chk 258 5).all (fun r => pm_okD prog_13_method_107_code r.1 r.2) = true := by decide +kernel
theorem pm_D258 : ∀ k, (pm_chk 258 k).all (fun r => pm_okD prog_13_method_107_code r.1 r.2) = true := fun k => match k with
  | 0 => pm_d258_0
  | 1 => pm_d258_1
  | 2 => pm_d258_2
  | 3 => pm_d258_3
  | 4 => pm_d258_4
  | 5 => pm_d258_5
  | _ + 6 => rfl
theorem pm_d259_0 : (pm_chk 259 0).all (fun r => pm_okD code r.1 r.2) = true := by decide +kernel
theorem pm_d259_1 : (pm_chk 259 1).all (fun r => pm_okD code r.1 r.2) = true := by decide +kernel
theorem pm_d259_2 : (pm_chk 259 2).all (fun r => pm_okD code r.1 r.2) = true := by decide +kernel
theorem pm_d259_3 : (pm_chk 259 3).all (fun r => pm_okD code r.1 r.2) = true := by decide +kernel
theorem pm_d259_4 : (pm_chk 259 4).all (fun r => pm_okD code r.1 r.2) = true := by decide +kernel
theorem pm_d259_5 : (pm_chk 259 5).all (fun r => pm_okD code r.1 r.2) = true := by decide +kernel
theorem pm_d259_6 : (pm_chk 259 6).all (fun r => pm_okD code r.1 r.2) = true := by decide +kernel
theorem pm_d259_7 : (pm_chk 259 7).all (fun r => pm_okD code r.1 r.2) = true := by decide +kernel
theorem pm_d259_8 : (pm_chk 259 8).all (fun r => pm_okD code r.1 r.2) = true := by decide +kernel
theorem pm_d259_9 : (pm_chk 259 9).all (fun r => pm_okD code r.1 r.2) = true := by decide +kernel
theorem pm_d259_10 : (pm_chk 259 10).all (fun r => pm_okD code r.1 r.2) = true := by decide +kernel
theorem pm_d259_11 : (pm_chk 259 11).all (fun r => pm_okD code r.1 r.2) = true := by decide +kernel
theorem pm_d259_12 : (pm_chk 259 12).all (fun r => pm_okD code r.1 r.2) = true := by decide +kernel
theorem pm_d259_13 : (pm_chk 259 13).all (fun r => pm_okD code r.1 r.2) = true := by decide +kernel
theorem pm_d259_14 : (pm_chk 259 14).all (fun r => pm_okD code r.1 r.2) = true := by decide +kernel
theorem pm_d259_15 : (pm_chk 259 15).all (fun r => pm_okD code r.1 r.2) = true := by decide +kernel
theorem pm_d259_16 : (pm_chk 259 16).all (fun r => pm_okD code r.1 r.2) = true := by decide +kernel
theorem pm_d259_17 : (pm_chk 259 17).all (fun r => pm_okD code r.1 r.2) = true := by decide +kernel
theorem pm_d259_18 : (pm_chk 259 18).all (fun r => pm_okD code r.1 r.2) = true := by decide +kernel
theorem pm_d259_19 : (pm_chk 259 19).all (fun r => pm_okD code r.1 r.2) = true := by decide +kernel
theorem pm_d259_20 : (pm_chk 259 20).all (fun r => pm_okD code r.1 r.2) = true := by decide +kernel
theorem pm_d259_21 : (pm_chk 259 21).all (fun r => pm_okD code r.1 r.2) = true := by decide +kernel
theorem pm_d259_22 : (pm_chk 259 22).all (fun r => pm_okD code r.1 r.2) = true := by decide +kernel
theorem pm_d259_23 : (pm_chk 259 23).all (fun r => pm_okD code r.1 r.2) = true := by decide +kernel
theorem pm_d259_24 : (pm_chk 259 24).all (fun r => pm_okD code r.1 r.2) = true := by decide +kernel
theorem pm_d259_25 : (pm_chk 259 25).all (fun r => pm_okD code r.1 r.2) = true := by decide +kernel
theorem pm_d259_26 : (pm_chk 259 26).all (fun r => pm_okD code r.1 r.2) = true := by decide +kernel
theorem pm_d259_27 : (pm_chk 259 27).all (fun r => pm_okD code r.1 r.2) = true := by decide +kernel
theorem pm_d259_28 : (pm_chk 259 28).all (fun r => pm_okD code r.1 r.2) = true := by decide +kernel
theorem pm_d259_29 : (pm_chk 259 29).all (fun r => pm_okD code r.1 r.2) = true := by decide +kernel
theorem pm_d259_30 : (pm_chk 259 30).all (fun r => pm_okD code r.1 r.2) = true := by decide +kernel
theorem pm_d259_31 : (pm_chk 259 31).all (fun r => pm_okD code r.1 r.2) = true := by decide +kernel
theorem pm_d259_32 : (pm_chk 259 32).all (fun r => pm_okD code r.1 r.2) = true := by decide +kernel
theorem pm_d259_33 : (pm_chk 259 33).all (fun r => pm_okD code r.1 r.2) = true := by decide +kernel
theorem pm_d259_34 : (pm_chk 259 34).all (fun r => pm_okD code r.1 r.2) = true := by decide +kernel
theorem pm_d259_35 : (pm_chk 259 35).all (fun r => pm_okD code r.1 r.2) = true := by decide +kernel
theorem pm_D259 : ∀ k, (pm_chk 259 k).all (fun r => pm_okD code r.1 r.2) = true := fun k => match k with
  | 0 => pm_d259_0
  | 1 => pm_d259_1
  | 2 => pm_d259_2
  | 3 => pm_d259_3
  | 4 => pm_d259_4
  | 5 => pm_d259_5
  | 6 => pm_d259_6
  | 7 => pm_d259_7
  | 8 => pm_d259_8
  | 9 => pm_d259_9
  | 10 => pm_d259_10
  | 11 => pm_d259_11
  | 12 => pm_d259_12
  | 13 => pm_d259_13
  | 14 => pm_d259_14
  | 15 => pm_d259_15
  | 16 => pm_d259_16
  | 17 => pm_d259_17
  | 18 => pm_d259_18
  | 19 => pm_d259_19
  | 20 => pm_d259_20
  | 21 => pm_d259_21
  | 22 => pm_d259_22
  | 23 => pm_d259_23
  | 24 => pm_d259_24
  | 25 => pm_d259_25
  | 26 => pm_d259_26
  | 27 => pm_d259_27
  | 28 => pm_d259_28
  | 29 => pm_d259_29
  | 30 => pm_d259_30
  | 31 => pm_d259_31
  | 32 => pm_d259_32
  | 33 => pm_d259_33
  | 34 => pm_d259_34
  | 35 => pm_d259_35
  | _ + 36 => rfl
