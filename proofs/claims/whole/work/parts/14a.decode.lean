theorem pm_d0_0 : (pm_chk 0 0).all (fun r => pm_okD prog_1_method_1_code r.1 r.2) = true := by decide +kernel
theorem pm_d0_1 : (pm_chk 0 1).all (fun r => pm_okD prog_1_method_1_code r.1 r.2) = true := by decide +kernel
theorem pm_d0_2 : (pm_chk 0 2).all (fun r => pm_okD prog_1_method_1_code r.1 r.2) = true := by decide +kernel
theorem pm_d0_3 : (pm_chk 0 3).all (fun r => pm_okD prog_1_method_1_code r.1 r.2) = true := by decide +kernel
theorem pm_D0 : ∀ k, (pm_chk 0 k).all (fun r => pm_okD prog_1_method_1_code r.1 r.2) = true := fun k => match k with
  | 0 => pm_d0_0
  | 1 => pm_d0_1
  | 2 => pm_d0_2
  | 3 => pm_d0_3
  | _ + 4 => rfl
theorem pm_d1_0 : (pm_chk 1 0).all (fun r => pm_okD prog_11_method_1_code r.1 r.2) = true := by decide +kernel
theorem pm_d1_1 : (pm_chk 1 1).all (fun r => pm_okD prog_11_method_1_code r.1 r.2) = true := by decide +kernel
theorem pm_d1_2 : (pm_chk 1 2).all (fun r => pm_okD prog_11_method_1_code r.1 r.2) = true := by decide +kernel
theorem pm_d1_3 : (pm_chk 1 3).all (fun r => pm_okD prog_11_method_1_code r.1 r.2) = true := by decide +kernel
theorem pm_d1_4 : (pm_chk 1 4).all (fun r => pm_okD prog_11_method_1_code r.1 r.2) = true := by decide +kernel
theorem pm_D1 : ∀ k, (pm_chk 1 k).all (fun r => pm_okD prog_11_method_1_code r.1 r.2) = true := fun k => match k with
  | 0 => pm_d1_0
  | 1 => pm_d1_1
  | 2 => pm_d1_2
  | 3 => pm_d1_3
  | 4 => pm_d1_4
  | _ + 5 => rfl
theorem pm_d2_0 : (pm_chk 2 0).all (fun r => pm_okD prog_2_method_1_code r.1 r.2) = true := by decide +kernel
theorem pm_D2 : ∀ k, (pm_chk 2 k).all (fun r => pm_okD prog_2_method_1_code r.1 r.2) = true := fun k => match k with
  | 0 => pm_d2_0
  | _ + 1 => rfl
theorem pm_d3_0 : (pm_chk 3 0).all (fun r => pm_okD prog_9_method_1_code r.1 r.2) = true := by decide +kernel
theorem pm_D3 : ∀ k, (pm_chk 3 k).all (fun r => pm_okD prog_9_method_1_code r.1 r.2) = true := fun k => match k with
  | 0 => pm_d3_0
  | _ + 1 => rfl
theorem pm_d4_0 : (pm_chk 4 0).all (fun r => pm_okD prog_4_method_1_code r.1 r.2) = true := by decide +kernel
theorem pm_D4 : ∀ k, (pm_chk 4 k).all (fun r => pm_okD prog_4_method_1_code r.1 r.2) = true := fun k => match k with
  | 0 => pm_d4_0
  | _ + 1 => rfl
theorem pm_d5_0 : (pm_chk 5 0).all (fun r => pm_okD prog_8_method_1_code r.1 r.2) = true := by decide +kernel
theorem pm_d5_1 : (pm_chk 5 1).all (fun r => pm_okD prog_8_method_1_code r.1 r.2) = true := by decide +kernel
theorem pm_d5_2 : (pm_chk 5 2).all (fun r => pm_okD prog_8_method_1_code r.1 r.2) = true := by decide +kernel
theorem pm_d5_3 : (pm_chk 5 3).all (fun r => pm_okD prog_8_method_1_code r.1 r.2) = true := by decide +kernel
theorem pm_D5 : ∀ k, (pm_chk 5 k).all (fun r => pm_okD prog_8_method_1_code r.1 r.2) = true := fun k => match k with
  | 0 => pm_d5_0
  | 1 => pm_d5_1
  | 2 => pm_d5_2
  | 3 => pm_d5_3
  | _ + 4 => rfl
theorem pm_d6_0 : (pm_chk 6 0).all (fun r => pm_okD prog_16_method_54_code r.1 r.2) = true := by decide +kernel
theorem pm_D6 : ∀ k, (pm_chk 6 k).all (fun r => pm_okD prog_16_method_54_code r.1 r.2) = true := fun k => match k with
  | 0 => pm_d6_0
  | _ + 1 => rfl
theorem pm_d7_0 : (pm_chk 7 0).all (fun r => pm_okD prog_16_method_152_code r.1 r.2) = true := by decide +kernel
theorem pm_D7 : ∀ k, (pm_chk 7 k).all (fun r => pm_okD prog_16_method_152_code r.1 r.2) = true := fun k => match k with
  | 0 => pm_d7_0
  | _ + 1 => rfl
theorem pm_d8_0 : (pm_chk 8 0).all (fun r => pm_okD prog_16_method_56_code r.1 r.2) = true := by decide +kernel
theorem pm_D8 : ∀ k, (pm_chk 8 k).all (fun r => pm_okD prog_16_method_56_code r.1 r.2) = true := fun k => match k with
  | 0 => pm_d8_0
  | _ + 1 => rfl
theorem pm_d9_0 : (pm_chk 9 0).all (fun r => pm_okD prog_16_method_154_code r.1 r.2) = true := by decide +kernel
theorem pm_D9 : ∀ k, (pm_chk 9 k).all (fun r => pm_okD prog_16_method_154_code r.1 r.2) = true := fun k => match k with
  | 0 => pm_d9_0
  | _ + 1 => rfl
theorem pm_d10_0 : (pm_chk 10 0).all (fun r => pm_okD prog_17_method_2_code r.1 r.2) = true := by decide +kernel
theorem pm_D10 : ∀ k, (pm_chk 10 k).all (fun r => pm_okD prog_17_method_2_code r.1 r.2) = true := fun k => match k with
  | 0 => pm_d10_0
  | _ + 1 => rfl
theorem pm_d11_0 : (pm_chk 11 0).all (fun r => pm_okD prog_16_method_155_code r.1 r.2) = true := by decide +kernel
theorem pm_D11 : ∀ k, (pm_chk 11 k).all (fun r => pm_okD prog_16_method_155_code r.1 r.2) = true := fun k => match k with
  | 0 => pm_d11_0
  | _ + 1 => rfl
theorem pm_d12_0 : (pm_chk 12 0).all (fun r => pm_okD prog_20_method_11_code r.1 r.2) = true := by decide +kernel
theorem pm_D12 : ∀ k, (pm_chk 12 k).all (fun r => pm_okD prog_20_method_11_code r.1 r.2) = true := fun k => match k with
  | 0 => pm_d12_0
  | _ + 1 => rfl
theorem pm_d13_0 : (pm_chk 13 0).all (fun r => pm_okD prog_6_method_1_code r.1 r.2) = true := by decide +kernel
theorem pm_d13_1 : (pm_chk 13 1).all (fun r => pm_okD prog_6_method_1_code r.1 r.2) = true := by decide +kernel
theorem pm_d13_2 : (pm_chk 13 2).all (fun r => pm_okD prog_6_method_1_code r.1 r.2) = true := by decide +kernel
theorem pm_D13 : ∀ k, (pm_chk 13 k).all (fun r => pm_okD prog_6_method_1_code r.1 r.2) = true := fun k => match k with
  | 0 => pm_d13_0
  | 1 => pm_d13_1
  | 2 => pm_d13_2
  | _ + 3 => rfl
theorem pm_d14_0 : (pm_chk 14 0).all (fun r => pm_okD prog_10_method_1_code r.1 r.2) = true := by decide +kernel
theorem pm_d14_1 : (pm_chk 14 1).all (fun r => pm_okD prog_10_method_1_code r.1 r.2) = true := by decide +kernel
theorem pm_D14 : ∀ k, (pm_chk 14 k).all (fun r => pm_okD prog_10_method_1_code r.1 r.2) = true := fun k => match k with
  | 0 => pm_d14_0
  | 1 => pm_d14_1
  | _ + 2 => rfl
theorem pm_d15_0 : (pm_chk 15 0).all (fun r => pm_okD prog_5_method_1_code r.1 r.2) = true := by decide +kernel
theorem pm_d15_1 : (pm_chk 15 1).all (fun r => pm_okD prog_5_method_1_code r.1 r.2) = true := by decide +kernel
theorem pm_D15 : ∀ k, (pm_chk 15 k).all (fun r => pm_okD prog_5_method_1_code r.1 r.2) = true := fun k => match k with
  | 0 => pm_d15_0
  | 1 => pm_d15_1
  | _ + 2 => rfl
theorem pm_d16_0 : (pm_chk 16 0).all (fun r => pm_okD prog_7_method_1_code r.1 r.2) = true := by decide +kernel
theorem pm_D16 : ∀ k, (pm_chk 16 k).all (fun r => pm_okD prog_7_method_1_code r.1 r.2) = true := fun k => match k with
  | 0 => pm_d16_0
  | _ + 1 => rfl
theorem pm_d17_0 : (pm_chk 17 0).all (fun r => pm_okD prog_3_method_1_code r.1 r.2) = true := by decide +kernel
theorem pm_d17_1 : (pm_chk 17 1).all (fun r => pm_okD prog_3_method_1_code r.1 r.2) = true := by decide +kernel
theorem pm_D17 : ∀ k, (pm_chk 17 k).all (fun r => pm_okD prog_3_method_1_code r.1 r.2) = true := fun k => match k with
  | 0 => pm_d17_0
  | 1 => pm_d17_1
  | _ + 2 => rfl
theorem pm_d18_0 : (pm_chk 18 0).all (fun r => pm_okD prog_1_method_2_code r.1 r.2) = true := by decide +kernel
theorem pm_d18_1 : (pm_chk 18 1).all (fun r => pm_okD prog_1_method_2_code r.1 r.2) = true := by decide +kernel
theorem pm_D18 : ∀ k, (pm_chk 18 k).all (fun r => pm_okD prog_1_method_2_code r.1 r.2) = true := fun k => match k with
  | 0 => pm_d18_0
  | 1 => pm_d18_1
  | _ + 2 => rfl
theorem pm_d19_0 : (pm_chk 19 0).all (fun r => pm_okD prog_1_method_3_code r.1 r.2) = true := by decide +kernel
theorem pm_d19_1 : (pm_chk 19 1).all (fun r => pm_okD prog_1_method_3_code r.1 r.2) = true := by decide +kernel
theorem pm_D19 : ∀ k, (pm_chk 19 k).all (fun r => pm_okD prog_1_method_3_code r.1 r.2) = true := fun k => match k with
  | 0 => pm_d19_0
  | 1 => pm_d19_1
  | _ + 2 => rfl
theorem pm_d20_0 : (pm_chk 20 0).all (fun r => pm_okD prog_1_method_4_code r.1 r.2) = true := by decide +kernel
theorem pm_D20 : ∀ k, (pm_chk 20 k).all (fun r => pm_okD prog_1_method_4_code r.1 r.2) = true := fun k => match k with
  | 0 => pm_d20_0
  | _ + 1 => rfl
theorem pm_d21_0 : (pm_chk 21 0).all (fun r => pm_okD prog_1_method_5_code r.1 r.2) = true := by decide +kernel
theorem pm_d21_1 : (pm_chk 21 1).all (fun r => pm_okD prog_1_method_5_code r.1 r.2) = true := by decide +kernel
theorem pm_d21_2 : (pm_chk 21 2).all (fun r => pm_okD prog_1_method_5_code r.1 r.2) = true := by decide +kernel
theorem pm_D21 : ∀ k, (pm_chk 21 k).all (fun r => pm_okD prog_1_method_5_code r.1 r.2) = true := fun k => match k with
  | 0 => pm_d21_0
  | 1 => pm_d21_1
  | 2 => pm_d21_2
  | _ + 3 => rfl
theorem pm_d22_0 : (pm_chk 22 0).all (fun r => pm_okD prog_8_method_2_code r.1 r.2) = true := by decide +kernel
theorem pm_d22_1 : (pm_chk 22 1).all (fun r => pm_okD prog_8_method_2_code r.1 r.2) = true := by decide +kernel
theorem pm_d22_2 : (pm_chk 22 2).all (fun r => pm_okD prog_8_method_2_code r.1 r.2) = true := by decide +kernel
theorem pm_d22_3 : (pm_chk 22 3).all (fun r => pm_okD prog_8_method_2_code r.1 r.2) = true := by decide +kernel
theorem pm_d22_4 : (pm_chk 22 4).all (fun r => pm_okD prog_8_method_2_code r.1 r.2) = true := by decide +kernel
theorem pm_d22_5 : (pm_chk 22 5).all (fun r => pm_okD prog_8_method_2_code r.1 r.2) = true := by decide +kernel
theorem pm_d22_6 : (pm_chk 22 6).all (fun r => pm_okD prog_8_method_2_code r.1 r.2) = true := by decide +kernel
theorem pm_d22_7 : (pm_chk 22 7).all (fun r => pm_okD prog_8_method_2_code r.1 r.2) = true := by decide +kernel
theorem pm_d22_8 : (pm_chk 22 8).all (fun r => pm_okD prog_8_method_2_code r.1 r.2) = true := by decide +kernel
theorem pm_d22_9 : (pm_chk 22 9).all (fun r => pm_okD prog_8_method_2_code r.1 r.2) = true := by decide +kernel
theorem pm_D22 : ∀ k, (pm_chk 22 k).all (fun r => pm_okD prog_8_method_2_code r.1 r.2) = true := fun k => match k with
  | 0 => pm_d22_0
  | 1 => pm_d22_1
  | 2 => pm_d22_2
  | 3 => pm_d22_3
  | 4 => pm_d22_4
  | 5 => pm_d22_5
  | 6 => pm_d22_6
  | 7 => pm_d22_7
  | 8 => pm_d22_8
  | 9 => pm_d22_9
  | _ + 10 => rfl
theorem pm_d23_0 : (pm_chk 23 0).all (fun r => pm_okD prog_15_method_69_code r.1 r.2) = true := by decide +kernel
theorem pm_D23 : ∀ k, (pm_chk 23 k).all (fun r => pm_okD prog_15_method_69_code r.1 r.2) = true := fun k => match k with
  | 0 => pm_d23_0
  | _ + 1 => rfl
theorem pm_d24_0 : (pm_chk 24 0).all (fun r => pm_okD prog_11_method_2_code r.1 r.2) = true := by decide +kernel
theorem pm_D24 : ∀ k, (pm_chk 24 k).all (fun r => pm_okD prog_11_method_2_code r.1 r.2) = true := fun k => match k with
  | 0 => pm_d24_0
  | _ + 1 => rfl
theorem pm_d25_0 : (pm_chk 25 0).all (fun r => pm_okD prog_19_method_103_code r.1 r.2) = true := by decide +kernel
theorem pm_D25 : ∀ k, (pm_chk 25 k).all (fun r => pm_okD prog_19_method_103_code r.1 r.2) = true := fun k => match k with
  | 0 => pm_d25_0
  | _ + 1 => rfl
theorem pm_d26_0 : (pm_chk 26 0).all (fun r => pm_okD prog_2_method_3_code r.1 r.2) = true := by decide +kernel
theorem pm_D26 : ∀ k, (pm_chk 26 k).all (fun r => pm_okD prog_2_method_3_code r.1 r.2) = true := fun k => match k with
  | 0 => pm_d26_0
  | _ + 1 => rfl
theorem pm_d27_0 : (pm_chk 27 0).all (fun r => pm_okD prog_8_method_21_code r.1 r.2) = true := by decide +kernel
theorem pm_d27_1 : (pm_chk 27 1).all (fun r => pm_okD prog_8_method_21_code r.1 r.2) = true := by decide +kernel
theorem pm_d27_2 : (pm_chk 27 2).all (fun r => pm_okD prog_8_method_21_code r.1 r.2) = true := by decide +kernel
theorem pm_d27_3 : (pm_chk 27 3).all (fun r => pm_okD prog_8_method_21_code r.1 r.2) = true := by decide +kernel
theorem pm_d27_4 : (pm_chk 27 4).all (fun r => pm_okD prog_8_method_21_code r.1 r.2) = true := by decide +kernel
theorem pm_d27_5 : (pm_chk 27 5).all (fun r => pm_okD prog_8_method_21_code r.1 r.2) = true := by decide +kernel
theorem pm_d27_6 : (pm_chk 27 6).all (fun r => pm_okD prog_8_method_21_code r.1 r.2) = true := by decide +kernel
theorem pm_d27_7 : (pm_chk 27 7).all (fun r => pm_okD prog_8_method_21_code r.1 r.2) = true := by decide +kernel
theorem pm_d27_8 : (pm_chk 27 8).all (fun r => pm_okD prog_8_method_21_code r.1 r.2) = true := by decide +kernel
theorem pm_d27_9 : (pm_chk 27 9).all (fun r => pm_okD prog_8_method_21_code r.1 r.2) = true := by decide +kernel
theorem pm_d27_10 : (pm_chk 27 10).all (fun r => pm_okD prog_8_method_21_code r.1 r.2) = true := by decide +kernel
theorem pm_D27 : ∀ k, (pm_chk 27 k).all (fun r => pm_okD prog_8_method_21_code r.1 r.2) = true := fun k => match k with
  | 0 => pm_d27_0
  | 1 => pm_d27_1
  | 2 => pm_d27_2
  | 3 => pm_d27_3
  | 4 => pm_d27_4
  | 5 => pm_d27_5
  | 6 => pm_d27_6
  | 7 => pm_d27_7
  | 8 => pm_d27_8
  | 9 => pm_d27_9
  | 10 => pm_d27_10
  | _ + 11 => rfl
theorem pm_d28_0 : (pm_chk 28 0).all (fun r => pm_okD prog_8_method_22_code r.1 r.2) = true := by decide +kernel
theorem pm_d28_1 : (pm_chk 28 1).all (fun r => pm_okD prog_8_method_22_code r.1 r.2) = true := by decide +kernel
theorem pm_d28_2 : (pm_chk 28 2).all (fun r => pm_okD prog_8_method_22_code r.1 r.2) = true := by decide +kernel
theorem pm_D28 : ∀ k, (pm_chk 28 k).all (fun r => pm_okD prog_8_method_22_code r.1 r.2) = true := fun k => match k with
  | 0 => pm_d28_0
  | 1 => pm_d28_1
  | 2 => pm_d28_2
  | _ + 3 => rfl
theorem pm_d29_0 : (pm_chk 29 0).all (fun r => pm_okD prog_8_method_24_code r.1 r.2) = true := by decide +kernel
theorem pm_D29 : ∀ k, (pm_chk 29 k).all (fun r => pm_okD prog_8_method_24_code r.1 r.2) = true := fun k => match k with
  | 0 => pm_d29_0
  | _ + 1 => rfl
theorem pm_d30_0 : (pm_chk 30 0).all (fun r => pm_okD prog_8_method_23_code r.1 r.2) = true := by decide +kernel
theorem pm_d30_1 : (pm_chk 30 1).all (fun r => pm_okD prog_8_method_23_code r.1 r.2) = true := by decide +kernel
theorem pm_D30 : ∀ k, (pm_chk 30 k).all (fun r => pm_okD prog_8_method_23_code r.1 r.2) = true := fun k => match k with
  | 0 => pm_d30_0
  | 1 => pm_d30_1
  | _ + 2 => rfl
theorem pm_d31_0 : (pm_chk 31 0).all (fun r => pm_okD prog_8_method_3_code r.1 r.2) = true := by decide +kernel
theorem pm_d31_1 : (pm_chk 31 1).all (fun r => pm_okD prog_8_method_3_code r.1 r.2) = true := by decide +kernel
theorem pm_d31_2 : (pm_chk 31 2).all (fun r => pm_okD prog_8_method_3_code r.1 r.2) = true := by decide +kernel
theorem pm_D31 : ∀ k, (pm_chk 31 k).all (fun r => pm_okD prog_8_method_3_code r.1 r.2) = true := fun k => match k with
  | 0 => pm_d31_0
  | 1 => pm_d31_1
  | 2 => pm_d31_2
  | _ + 3 => rfl
theorem pm_d32_0 : (pm_chk 32 0).all (fun r => pm_okD prog_11_method_4_code r.1 r.2) = true := by decide +kernel
theorem pm_D32 : ∀ k, (pm_chk 32 k).all (fun r => pm_okD prog_11_method_4_code r.1 r.2) = true := fun k => match k with
  | 0 => pm_d32_0
  | _ + 1 => rfl
theorem pm_d33_0 : (pm_chk 33 0).all (fun r => pm_okD prog_8_method_18_code r.1 r.2) = true := by decide +kernel
theorem pm_d33_1 : (pm_chk 33 1).all (fun r => pm_okD prog_8_method_18_code r.1 r.2) = true := by decide +kernel
theorem pm_d33_2 : (pm_chk 33 2).all (fun r => pm_okD prog_8_method_18_code r.1 r.2) = true := by decide +kernel
theorem pm_D33 : ∀ k, (pm_chk 33 k).all (fun r => pm_okD prog_8_method_18_code r.1 r.2) = true := fun k => match k with
  | 0 => pm_d33_0
  | 1 => pm_d33_1
  | 2 => pm_d33_2
  | _ + 3 => rfl
theorem pm_d34_0 : (pm_chk 34 0).all (fun r => pm_okD prog_11_method_8_code r.1 r.2) = true := by decide +kernel
theorem pm_d34_1 : (pm_chk 34 1).all (fun r => pm_okD prog_11_method_8_code r.1 r.2) = true := by decide +kernel
theorem pm_D34 : ∀ k, (pm_chk 34 k).all (fun r => pm_okD prog_11_method_8_code r.1 r.2) = true := fun k => match k with
  | 0 => pm_d34_0
  | 1 => pm_d34_1
  | _ + 2 => rfl
theorem pm_d35_0 : (pm_chk 35 0).all (fun r => pm_okD prog_11_method_7_code r.1 r.2) = true := by decide +kernel
theorem pm_d35_1 : (pm_chk 35 1).all (fun r => pm_okD prog_11_method_7_code r.1 r.2) = true := by decide +kernel
theorem pm_D35 : ∀ k, (pm_chk 35 k).all (fun r => pm_okD prog_11_method_7_code r.1 r.2) = true := fun k => match k with
  | 0 => pm_d35_0
  | 1 => pm_d35_1
  | _ + 2 => rfl
theorem pm_d36_0 : (pm_chk 36 0).all (fun r => pm_okD prog_11_method_6_code r.1 r.2) = true := by decide +kernel
theorem pm_D36 : ∀ k, (pm_chk 36 k).all (fun r => pm_okD prog_11_method_6_code r.1 r.2) = true := fun k => match k with
  | 0 => pm_d36_0
  | _ + 1 => rfl
theorem pm_d37_0 : (pm_chk 37 0).all (fun r => pm_okD prog_8_method_4_code r.1 r.2) = true := by decide +kernel
theorem pm_d37_1 : (pm_chk 37 1).all (fun r => pm_okD prog_8_method_4_code r.1 r.2) = true := by decide +kernel
theorem pm_d37_2 : (pm_chk 37 2).all (fun r => pm_okD prog_8_method_4_code r.1 r.2) = true := by decide +kernel
theorem pm_D37 : ∀ k, (pm_chk 37 k).all (fun r => pm_okD prog_8_method_4_code r.1 r.2) = true := fun k => match k with
  | 0 => pm_d37_0
  | 1 => pm_d37_1
  | 2 => pm_d37_2
  | _ + 3 => rfl
theorem pm_d38_0 : (pm_chk 38 0).all (fun r => pm_okD prog_8_method_19_code r.1 r.2) = true := by decide +kernel
theorem pm_d38_1 : (pm_chk 38 1).all (fun r => pm_okD prog_8_method_19_code r.1 r.2) = true := by decide +kernel
theorem pm_D38 : ∀ k, (pm_chk 38 k).all (fun r => pm_okD prog_8_method_19_code r.1 r.2) = true := fun k => match k with
  | 0 => pm_d38_0
  | 1 => pm_d38_1
  | _ + 2 => rfl
theorem pm_d39_0 : (pm_chk 39 0).all (fun r => pm_okD prog_11_method_10_code r.1 r.2) = true := by decide +kernel
theorem pm_d39_1 : (pm_chk 39 1).all (fun r => pm_okD prog_11_method_10_code r.1 r.2) = true := by decide +kernel
theorem pm_D39 : ∀ k, (pm_chk 39 k).all (fun r => pm_okD prog_11_method_10_code r.1 r.2) = true := fun k => match k with
  | 0 => pm_d39_0
  | 1 => pm_d39_1
  | _ + 2 => rfl
theorem pm_d40_0 : (pm_chk 40 0).all (fun r => pm_okD prog_11_method_11_code r.1 r.2) = true := by decide +kernel
theorem pm_d40_1 : (pm_chk 40 1).all (fun r => pm_okD prog_11_method_11_code r.1 r.2) = true := by decide +kernel
theorem pm_D40 : ∀ k, (pm_chk 40 k).all (fun r => pm_okD prog_11_method_11_code r.1 r.2) = true := fun k => match k with
  | 0 => pm_d40_0
  | 1 => pm_d40_1
  | _ + 2 => rfl
theorem pm_d41_0 : (pm_chk 41 0).all (fun r => pm_okD prog_8_method_5_code r.1 r.2) = true := by decide +kernel
theorem pm_d41_1 : (pm_chk 41 1).all (fun r => pm_okD prog_8_method_5_code r.1 r.2) = true := by decide +kernel
theorem pm_D41 : ∀ k, (pm_chk 41 k).all (fun r => pm_okD prog_8_method_5_code r.1 r.2) = true := fun k => match k with
  | 0 => pm_d41_0
  | 1 => pm_d41_1
  | _ + 2 => rfl
theorem pm_d42_0 : (pm_chk 42 0).all (fun r => pm_okD prog_8_method_17_code r.1 r.2) = true := by decide +kernel
theorem pm_D42 : ∀ k, (pm_chk 42 k).all (fun r => pm_okD prog_8_method_17_code r.1 r.2) = true := fun k => match k with
  | 0 => pm_d42_0
  | _ + 1 => rfl
theorem pm_d43_0 : (pm_chk 43 0).all (fun r => pm_okD prog_8_method_6_code r.1 r.2) = true := by decide +kernel
theorem pm_d43_1 : (pm_chk 43 1).all (fun r => pm_okD prog_8_method_6_code r.1 r.2) = true := by decide +kernel
theorem pm_D43 : ∀ k, (pm_chk 43 k).all (fun r => pm_okD prog_8_method_6_code r.1 r.2) = true := fun k => match k with
  | 0 => pm_d43_0
  | 1 => pm_d43_1
  | _ + 2 => rfl
theorem pm_d44_0 : (pm_chk 44 0).all (fun r => pm_okD prog_8_method_20_code r.1 r.2) = true := by decide +kernel
theorem pm_d44_1 : (pm_chk 44 1).all (fun r => pm_okD prog_8_method_20_code r.1 r.2) = true := by decide +kernel
theorem pm_D44 : ∀ k, (pm_chk 44 k).all (fun r => pm_okD prog_8_method_20_code r.1 r.2) = true := fun k => match k with
  | 0 => pm_d44_0
  | 1 => pm_d44_1
  | _ + 2 => rfl
theorem pm_d45_0 : (pm_chk 45 0).all (fun r => pm_okD prog_8_method_7_code r.1 r.2) = true := by decide +kernel
theorem pm_d45_1 : (pm_chk 45 1).all (fun r => pm_okD prog_8_method_7_code r.1 r.2) = true := by decide +kernel
theorem pm_d45_2 : (pm_chk 45 2).all (fun r => pm_okD prog_8_method_7_code r.1 r.2) = true := by decide +kernel
theorem pm_d45_3 : (pm_chk 45 3).all (fun r => pm_okD prog_8_method_7_code r.1 r.2) = true := by decide +kernel
theorem pm_d45_4 : (pm_chk 45 4).all (fun r => pm_okD prog_8_method_7_code r.1 r.2) = true := by decide +kernel
theorem pm_d45_5 : (pm_chk 45 5).all (fun r => pm_okD prog_8_method_7_code r.1 r.2) = true := by decide +kernel
theorem pm_D45 : ∀ k, (pm_chk 45 k).all (fun r => pm_okD prog_8_method_7_code r.1 r.2) = true := fun k => match k with
  | 0 => pm_d45_0
  | 1 => pm_d45_1
  | 2 => pm_d45_2
  | 3 => pm_d45_3
  | 4 => pm_d45_4
  | 5 => pm_d45_5
  | _ + 6 => rfl
theorem pm_d46_0 : (pm_chk 46 0).all (fun r => pm_okD prog_8_method_12_code r.1 r.2) = true := by decide +kernel
theorem pm_d46_1 : (pm_chk 46 1).all (fun r => pm_okD prog_8_method_12_code r.1 r.2) = true := by decide +kernel
theorem pm_D46 : ∀ k, (pm_chk 46 k).all (fun r => pm_okD prog_8_method_12_code r.1 r.2) = true := fun k => match k with
  | 0 => pm_d46_0
  | 1 => pm_d46_1
  | _ + 2 => rfl
theorem pm_d47_0 : (pm_chk 47 0).all (fun r => pm_okD prog_8_method_13_code r.1 r.2) = true := by decide +kernel
theorem pm_d47_1 : (pm_chk 47 1).all (fun r => pm_okD prog_8_method_13_code r.1 r.2) = true := by decide +kernel
theorem pm_d47_2 : (pm_chk 47 2).all (fun r => pm_okD prog_8_method_13_code r.1 r.2) = true := by decide +kernel
theorem pm_D47 : ∀ k, (pm_chk 47 k).all (fun r => pm_okD prog_8_method_13_code r.1 r.2) = true := fun k => match k with
  | 0 => pm_d47_0
  | 1 => pm_d47_1
  | 2 => pm_d47_2
  | _ + 3 => rfl
theorem pm_d48_0 : (pm_chk 48 0).all (fun r => pm_okD prog_8_method_14_code r.1 r.2) = true := by decide +kernel
theorem pm_d48_1 : (pm_chk 48 1).all (fun r => pm_okD prog_8_method_14_code r.1 r.2) = true := by decide +kernel
theorem pm_d48_2 : (pm_chk 48 2).all (fun r => pm_okD prog_8_method_14_code r.1 r.2) = true := by decide +kernel
theorem pm_d48_3 : (pm_chk 48 3).all (fun r => pm_okD prog_8_method_14_code r.1 r.2) = true := by decide +kernel
theorem pm_d48_4 : (pm_chk 48 4).all (fun r => pm_okD prog_8_method_14_code r.1 r.2) = true := by decide +kernel
theorem pm_D48 : ∀ k, (pm_chk 48 k).all (fun r => pm_okD prog_8_method_14_code r.1 r.2) = true := fun k => match k with
  | 0 => pm_d48_0
  | 1 => pm_d48_1
  | 2 => pm_d48_2
  | 3 => pm_d48_3
  | 4 => pm_d48_4
  | _ + 5 => rfl
theorem pm_d49_0 : (pm_chk 49 0).all (fun r => pm_okD prog_11_method_12_code r.1 r.2) = true := by decide +kernel
theorem pm_d49_1 : (pm_chk 49 1).all (fun r => pm_okD prog_11_method_12_code r.1 r.2) = true := by decide +kernel
theorem pm_D49 : ∀ k, (pm_chk 49 k).all (fun r => pm_okD prog_11_method_12_code r.1 r.2) = true := fun k => match k with
  | 0 => pm_d49_0
  | 1 => pm_d49_1
  | _ + 2 => rfl
theorem pm_d50_0 : (pm_chk 50 0).all (fun r => pm_okD prog_8_method_15_code r.1 r.2) = true := by decide +kernel
theorem pm_d50_1 : (pm_chk 50 1).all (fun r => pm_okD prog_8_method_15_code r.1 r.2) = true := by decide +kernel
theorem pm_D50 : ∀ k, (pm_chk 50 k).all (fun r => pm_okD prog_8_method_15_code r.1 r.2) = true := fun k => match k with
  | 0 => pm_d50_0
  | 1 => pm_d50_1
  | _ + 2 => rfl
theorem pm_d51_0 : (pm_chk 51 0).all (fun r => pm_okD prog_8_method_16_code r.1 r.2) = true := by decide +kernel
theorem pm_d51_1 : (pm_chk 51 1).all (fun r => pm_okD prog_8_method_16_code r.1 r.2) = true := by decide +kernel
theorem pm_D51 : ∀ k, (pm_chk 51 k).all (fun r => pm_okD prog_8_method_16_code r.1 r.2) = true := fun k => match k with
  | 0 => pm_d51_0
  | 1 => pm_d51_1
  | _ + 2 => rfl
theorem pm_d52_0 : (pm_chk 52 0).all (fun r => pm_okD prog_8_method_8_code r.1 r.2) = true := by decide +kernel
theorem pm_d52_1 : (pm_chk 52 1).all (fun r => pm_okD prog_8_method_8_code r.1 r.2) = true := by decide +kernel
theorem pm_D52 : ∀ k, (pm_chk 52 k).all (fun r => pm_okD prog_8_method_8_code r.1 r.2) = true := fun k => match k with
  | 0 => pm_d52_0
  | 1 => pm_d52_1
  | _ + 2 => rfl
theorem pm_d53_0 : (pm_chk 53 0).all (fun r => pm_okD prog_8_method_9_code r.1 r.2) = true := by decide +kernel
theorem pm_d53_1 : (pm_chk 53 1).all (fun r => pm_okD prog_8_method_9_code r.1 r.2) = true := by decide +kernel
theorem pm_D53 : ∀ k, (pm_chk 53 k).all (fun r => pm_okD prog_8_method_9_code r.1 r.2) = true := fun k => match k with
  | 0 => pm_d53_0
  | 1 => pm_d53_1
  | _ + 2 => rfl
theorem pm_d54_0 : (pm_chk 54 0).all (fun r => pm_okD prog_8_method_10_code r.1 r.2) = true := by decide +kernel
theorem pm_d54_1 : (pm_chk 54 1).all (fun r => pm_okD prog_8_method_10_code r.1 r.2) = true := by decide +kernel
theorem pm_d54_2 : (pm_chk 54 2).all (fun r => pm_okD prog_8_method_10_code r.1 r.2) = true := by decide +kernel
theorem pm_d54_3 : (pm_chk 54 3).all (fun r => pm_okD prog_8_method_10_code r.1 r.2) = true := by decide +kernel
theorem pm_d54_4 : (pm_chk 54 4).all (fun r => pm_okD prog_8_method_10_code r.1 r.2) = true := by decide +kernel
theorem pm_d54_5 : (pm_chk 54 5).all (fun r => pm_okD prog_8_method_10_code r.1 r.2) = true := by decide +kernel
theorem pm_D54 : ∀ k, (pm_chk 54 k).all (fun r => pm_okD prog_8_method_10_code r.1 r.2) = true := fun k => match k with
  | 0 => pm_d54_0
  | 1 => pm_d54_1
  | 2 => pm_d54_2
  | 3 => pm_d54_3
  | 4 => pm_d54_4
  | 5 => pm_d54_5
  | _ + 6 => rfl
theorem pm_d55_0 : (pm_chk 55 0).all (fun r => pm_okD prog_8_method_11_code r.1 r.2) = true := by decide +kernel
theorem pm_d55_1 : (pm_chk 55 1).all (fun r => pm_okD prog_8_method_11_code r.1 r.2) = true := by decide +kernel
theorem pm_d55_2 : (pm_chk 55 2).all (fun r => pm_okD prog_8_method_11_code r.1 r.2) = true := by decide +kernel
theorem pm_d55_3 : (pm_chk 55 3).all (fun r => pm_okD prog_8_method_11_code r.1 r.2) = true := by decide +kernel
theorem pm_D55 : ∀ k, (pm_chk 55 k).all (fun r => pm_okD prog_8_method_11_code r.1 r.2) = true := fun k => match k with
  | 0 => pm_d55_0
  | 1 => pm_d55_1
  | 2 => pm_d55_2
  | 3 => pm_d55_3
  | _ + 4 => rfl
theorem pm_d56_0 : (pm_chk 56 0).all (fun r => pm_okD prog_11_method_13_code r.1 r.2) = true := by decide +kernel
theorem pm_d56_1 : (pm_chk 56 1).all (fun r => pm_okD prog_11_method_13_code r.1 r.2) = true := by decide +kernel
theorem pm_D56 : ∀ k, (pm_chk 56 k).all (fun r => pm_okD prog_11_method_13_code r.1 r.2) = true := fun k => match k with
  | 0 => pm_d56_0
  | 1 => pm_d56_1
  | _ + 2 => rfl
theorem pm_d57_0 : (pm_chk 57 0).all (fun r => pm_okD prog_11_method_15_code r.1 r.2) = true := by decide +kernel
theorem pm_d57_1 : (pm_chk 57 1).all (fun r => pm_okD prog_11_method_15_code r.1 r.2) = true := by decide +kernel
theorem pm_d57_2 : (pm_chk 57 2).all (fun r => pm_okD prog_11_method_15_code r.1 r.2) = true := by decide +kernel
theorem pm_d57_3 : (pm_chk 57 3).all (fun r => pm_okD prog_11_method_15_code r.1 r.2) = true := by decide +kernel
theorem pm_D57 : ∀ k, (pm_chk 57 k).all (fun r => pm_okD prog_11_method_15_code r.1 r.2) = true := fun k => match k with
  | 0 => pm_d57_0
  | 1 => pm_d57_1
  | 2 => pm_d57_2
  | 3 => pm_d57_3
  | _ + 4 => rfl
theorem pm_d58_0 : (pm_chk 58 0).all (fun r => pm_okD prog_11_method_17_code r.1 r.2) = true := by decide +kernel
theorem pm_d58_1 : (pm_chk 58 1).all (fun r => pm_okD prog_11_method_17_code r.1 r.2) = true := by decide +kernel
theorem pm_d58_2 : (pm_chk 58 2).all (fun r => pm_okD prog_11_method_17_code r.1 r.2) = true := by decide +kernel
theorem pm_d58_3 : (pm_chk 58 3).all (fun r => pm_okD prog_11_method_17_code r.1 r.2) = true := by decide +kernel
theorem pm_d58_4 : (pm_chk 58 4).all (fun r => pm_okD prog_11_method_17_code r.1 r.2) = true := by decide +kernel
theorem pm_D58 : ∀ k, (pm_chk 58 k).all (fun r => pm_okD prog_11_method_17_code r.1 r.2) = true := fun k => match k with
  | 0 => pm_d58_0
  | 1 => pm_d58_1
  | 2 => pm_d58_2
  | 3 => pm_d58_3
  | 4 => pm_d58_4
  | _ + 5 => rfl
theorem pm_d59_0 : (pm_chk 59 0).all (fun r => pm_okD prog_11_method_18_code r.1 r.2) = true := by decide +kernel
theorem pm_d59_1 : (pm_chk 59 1).all (fun r => pm_okD prog_11_method_18_code r.1 r.2) = true := by decide +kernel
theorem pm_d59_2 : (pm_chk 59 2).all (fun r => pm_okD prog_11_method_18_code r.1 r.2) = true := by decide +kernel
theorem pm_D59 : ∀ k, (pm_chk 59 k).all (fun r => pm_okD prog_11_method_18_code r.1 r.2) = true := fun k => match k with
  | 0 => pm_d59_0
  | 1 => pm_d59_1
  | 2 => pm_d59_2
  | _ + 3 => rfl
theorem pm_d60_0 : (pm_chk 60 0).all (fun r => pm_okD prog_11_method_16_code r.1 r.2) = true := by decide +kernel
theorem pm_d60_1 : (pm_chk 60 1).all (fun r => pm_okD prog_11_method_16_code r.1 r.2) = true := by decide +kernel
theorem pm_d60_2 : (pm_chk 60 2).all (fun r => pm_okD prog_11_method_16_code r.1 r.2) = true := by decide +kernel
theorem pm_D60 : ∀ k, (pm_chk 60 k).all (fun r => pm_okD prog_11_method_16_code r.1 r.2) = true := fun k => match k with
  | 0 => pm_d60_0
  | 1 => pm_d60_1
  | 2 => pm_d60_2
  | _ + 3 => rfl
theorem pm_d61_0 : (pm_chk 61 0).all (fun r => pm_okD prog_2_method_2_code r.1 r.2) = true := by decide +kernel
theorem pm_d61_1 : (pm_chk 61 1).all (fun r => pm_okD prog_2_method_2_code r.1 r.2) = true := by decide +kernel
theorem pm_D61 : ∀ k, (pm_chk 61 k).all (fun r => pm_okD prog_2_method_2_code r.1 r.2) = true := fun k => match k with
  | 0 => pm_d61_0
  | 1 => pm_d61_1
  | _ + 2 => rfl
theorem pm_d62_0 : (pm_chk 62 0).all (fun r => pm_okD prog_6_method_2_code r.1 r.2) = true := by decide +kernel
theorem pm_D62 : ∀ k, (pm_chk 62 k).all (fun r => pm_okD prog_6_method_2_code r.1 r.2) = true := fun k => match k with
  | 0 => pm_d62_0
  | _ + 1 => rfl
theorem pm_d63_0 : (pm_chk 63 0).all (fun r => pm_okD prog_5_method_2_code r.1 r.2) = true := by decide +kernel
theorem pm_D63 : ∀ k, (pm_chk 63 k).all (fun r => pm_okD prog_5_method_2_code r.1 r.2) = true := fun k => match k with
  | 0 => pm_d63_0
  | _ + 1 => rfl
theorem pm_d64_0 : (pm_chk 64 0).all (fun r => pm_okD prog_3_method_2_code r.1 r.2) = true := by decide +kernel
theorem pm_D64 : ∀ k, (pm_chk 64 k).all (fun r => pm_okD prog_3_method_2_code r.1 r.2) = true := fun k => match k with
  | 0 => pm_d64_0
  | _ + 1 => rfl
theorem pm_d65_0 : (pm_chk 65 0).all (fun r => pm_okD prog_11_method_5_code r.1 r.2) = true := by decide +kernel
theorem pm_D65 : ∀ k, (pm_chk 65 k).all (fun r => pm_okD prog_11_method_5_code r.1 r.2) = true := fun k => match k with
  | 0 => pm_d65_0
  | _ + 1 => rfl
theorem pm_d66_0 : (pm_chk 66 0).all (fun r => pm_okD prog_1_method_6_code r.1 r.2) = true := by decide +kernel
theorem pm_d66_1 : (pm_chk 66 1).all (fun r => pm_okD prog_1_method_6_code r.1 r.2) = true := by decide +kernel
theorem pm_D66 : ∀ k, (pm_chk 66 k).all (fun r => pm_okD prog_1_method_6_code r.1 r.2) = true := fun k => match k with
  | 0 => pm_d66_0
  | 1 => pm_d66_1
  | _ + 2 => rfl
theorem pm_d67_0 : (pm_chk 67 0).all (fun r => pm_okD prog_1_method_7_code r.1 r.2) = true := by decide +kernel
theorem pm_d67_1 : (pm_chk 67 1).all (fun r => pm_okD prog_1_method_7_code r.1 r.2) = true := by decide +kernel
theorem pm_d67_2 : (pm_chk 67 2).all (fun r => pm_okD prog_1_method_7_code r.1 r.2) = true := by decide +kernel
theorem pm_D67 : ∀ k, (pm_chk 67 k).all (fun r => pm_okD prog_1_method_7_code r.1 r.2) = true := fun k => match k with
  | 0 => pm_d67_0
  | 1 => pm_d67_1
  | 2 => pm_d67_2
  | _ + 3 => rfl
theorem pm_d68_0 : (pm_chk 68 0).all (fun r => pm_okD prog_1_method_8_code r.1 r.2) = true := by decide +kernel
theorem pm_d68_1 : (pm_chk 68 1).all (fun r => pm_okD prog_1_method_8_code r.1 r.2) = true := by decide +kernel
theorem pm_D68 : ∀ k, (pm_chk 68 k).all (fun r => pm_okD prog_1_method_8_code r.1 r.2) = true := fun k => match k with
  | 0 => pm_d68_0
  | 1 => pm_d68_1
  | _ + 2 => rfl
theorem pm_d69_0 : (pm_chk 69 0).all (fun r => pm_okD prog_11_method_9_code r.1 r.2) = true := by decide +kernel
theorem pm_d69_1 : (pm_chk 69 1).all (fun r => pm_okD prog_11_method_9_code r.1 r.2) = true := by decide +kernel
theorem pm_d69_2 : (pm_chk 69 2).all (fun r => pm_okD prog_11_method_9_code r.1 r.2) = true := by decide +kernel
theorem pm_d69_3 : (pm_chk 69 3).all (fun r => pm_okD prog_11_method_9_code r.1 r.2) = true := by decide +kernel
theorem pm_D69 : ∀ k, (pm_chk 69 k).all (fun r => pm_okD prog_11_method_9_code r.1 r.2) = true := fun k => match k with
  | 0 => pm_d69_0
  | 1 => pm_d69_1
  | 2 => pm_d69_2
  | 3 => pm_d69_3
  | _ + 4 => rfl
theorem pm_d70_0 : (pm_chk 70 0).all (fun r => pm_okD prog_11_method_3_code r.1 r.2) = true := by decide +kernel
theorem pm_D70 : ∀ k, (pm_chk 70 k).all (fun r => pm_okD prog_11_method_3_code r.1 r.2) = true := fun k => match k with
  | 0 => pm_d70_0
  | _ + 1 => rfl
theorem pm_d71_0 : (pm_chk 71 0).all (fun r => pm_okD prog_1_method_9_code r.1 r.2) = true := by decide +kernel
theorem pm_d71_1 : (pm_chk 71 1).all (fun r => pm_okD prog_1_method_9_code r.1 r.2) = true := by decide +kernel
theorem pm_D71 : ∀ k, (pm_chk 71 k).all (fun r => pm_okD prog_1_method_9_code r.1 r.2) = true := fun k => match k with
  | 0 => pm_d71_0
  | 1 => pm_d71_1
  | _ + 2 => rfl
theorem pm_d72_0 : (pm_chk 72 0).all (fun r => pm_okD prog_1_method_10_code r.1 r.2) = true := by decide +kernel
theorem pm_d72_1 : (pm_chk 72 1).all (fun r => pm_okD prog_1_method_10_code r.1 r.2) = true := by decide +kernel
theorem pm_D72 : ∀ k, (pm_chk 72 k).all (fun r => pm_okD prog_1_method_10_code r.1 r.2) = true := fun k => match k with
  | 0 => pm_d72_0
  | 1 => pm_d72_1
  | _ + 2 => rfl
theorem pm_d73_0 : (pm_chk 73 0).all (fun r => pm_okD prog_1_method_11_code r.1 r.2) = true := by decide +kernel
theorem pm_D73 : ∀ k, (pm_chk 73 k).all (fun r => pm_okD prog_1_method_11_code r.1 r.2) = true := fun k => match k with
  | 0 => pm_d73_0
  | _ + 1 => rfl
theorem pm_d74_0 : (pm_chk 74 0).all (fun r => pm_okD prog_2_method_4_code r.1 r.2) = true := by decide +kernel
theorem pm_D74 : ∀ k, (pm_chk 74 k).all (fun r => pm_okD prog_2_method_4_code r.1 r.2) = true := fun k => match k with
  | 0 => pm_d74_0
  | _ + 1 => rfl
theorem pm_d75_0 : (pm_chk 75 0).all (fun r => pm_okD prog_1_method_12_code r.1 r.2) = true := by decide +kernel
theorem pm_D75 : ∀ k, (pm_chk 75 k).all (fun r => pm_okD prog_1_method_12_code r.1 r.2) = true := fun k => match k with
  | 0 => pm_d75_0
  | _ + 1 => rfl
theorem pm_d76_0 : (pm_chk 76 0).all (fun r => pm_okD prog_1_method_13_code r.1 r.2) = true := by decide +kernel
theorem pm_d76_1 : (pm_chk 76 1).all (fun r => pm_okD prog_1_method_13_code r.1 r.2) = true := by decide +kernel
theorem pm_D76 : ∀ k, (pm_chk 76 k).all (fun r => pm_okD prog_1_method_13_code r.1 r.2) = true := fun k => match k with
  | 0 => pm_d76_0
  | 1 => pm_d76_1
  | _ + 2 => rfl
theorem pm_d77_0 : (pm_chk 77 0).all (fun r => pm_okD prog_6_method_3_code r.1 r.2) = true := by decide +kernel
theorem pm_d77_1 : (pm_chk 77 1).all (fun r => pm_okD prog_6_method_3_code r.1 r.2) = true := by decide +kernel
theorem pm_d77_2 : (pm_chk 77 2).all (fun r => pm_okD prog_6_method_3_code r.1 r.2) = true := by decide +kernel
theorem pm_d77_3 : (pm_chk 77 3).all (fun r => pm_okD prog_6_method_3_code r.1 r.2) = true := by decide +kernel
theorem pm_D77 : ∀ k, (pm_chk 77 k).all (fun r => pm_okD prog_6_method_3_code r.1 r.2) = true := fun k => match k with
  | 0 => pm_d77_0
  | 1 => pm_d77_1
  | 2 => pm_d77_2
  | 3 => pm_d77_3
  | _ + 4 => rfl
theorem pm_d78_0 : (pm_chk 78 0).all (fun r => pm_okD prog_10_method_2_code r.1 r.2) = true := by decide +kernel
theorem pm_d78_1 : (pm_chk 78 1).all (fun r => pm_okD prog_10_method_2_code r.1 r.2) = true := by decide +kernel
theorem pm_d78_2 : (pm_chk 78 2).all (fun r => pm_okD prog_10_method_2_code r.1 r.2) = true := by decide +kernel
theorem pm_d78_3 : (pm_chk 78 3).all (fun r => pm_okD prog_10_method_2_code r.1 r.2) = true := by decide +kernel
theorem pm_D78 : ∀ k, (pm_chk 78 k).all (fun r => pm_okD prog_10_method_2_code r.1 r.2) = true := fun k => match k with
  | 0 => pm_d78_0
  | 1 => pm_d78_1
  | 2 => pm_d78_2
  | 3 => pm_d78_3
  | _ + 4 => rfl
theorem pm_d79_0 : (pm_chk 79 0).all (fun r => pm_okD prog_10_method_3_code r.1 r.2) = true := by decide +kernel
theorem pm_D79 : ∀ k, (pm_chk 79 k).all (fun r => pm_okD prog_10_method_3_code r.1 r.2) = true := fun k => match k with
  | 0 => pm_d79_0
  | _ + 1 => rfl
theorem pm_d80_0 : (pm_chk 80 0).all (fun r => pm_okD prog_6_method_4_code r.1 r.2) = true := by decide +kernel
theorem pm_d80_1 : (pm_chk 80 1).all (fun r => pm_okD prog_6_method_4_code r.1 r.2) = true := by decide +kernel
theorem pm_d80_2 : (pm_chk 80 2).all (fun r => pm_okD prog_6_method_4_code r.1 r.2) = true := by decide +kernel
theorem pm_d80_3 : (pm_chk 80 3).all (fun r => pm_okD prog_6_method_4_code r.1 r.2) = true := by decide +kernel
theorem pm_d80_4 : (pm_chk 80 4).all (fun r => pm_okD prog_6_method_4_code r.1 r.2) = true := by decide +kernel
theorem pm_d80_5 : (pm_chk 80 5).all (fun r => pm_okD prog_6_method_4_code r.1 r.2) = true := by decide +kernel
theorem pm_d80_6 : (pm_chk 80 6).all (fun r => pm_okD prog_6_method_4_code r.1 r.2) = true := by decide +kernel
theorem pm_d80_7 : (pm_chk 80 7).all (fun r => pm_okD prog_6_method_4_code r.1 r.2) = true := by decide +kernel
theorem pm_D80 : ∀ k, (pm_chk 80 k).all (fun r => pm_okD prog_6_method_4_code r.1 r.2) = true := fun k => match k with
  | 0 => pm_d80_0
  | 1 => pm_d80_1
  | 2 => pm_d80_2
  | 3 => pm_d80_3
  | 4 => pm_d80_4
  | 5 => pm_d80_5
  | 6 => pm_d80_6
  | 7 => pm_d80_7
  | _ + 8 => rfl
theorem pm_d81_0 : (pm_chk 81 0).all (fun r => pm_okD prog_2_method_5_code r.1 r.2) = true := by decide +kernel
theorem pm_D81 : ∀ k, (pm_chk 81 k).all (fun r => pm_okD prog_2_method_5_code r.1 r.2) = true := fun k => match k with
  | 0 => pm_d81_0
  | _ + 1 => rfl
theorem pm_d82_0 : (pm_chk 82 0).all (fun r => pm_okD prog_10_method_5_code r.1 r.2) = true := by decide +kernel
theorem pm_d82_1 : (pm_chk 82 1).all (fun r => pm_okD prog_10_method_5_code r.1 r.2) = true := by decide +kernel
theorem pm_d82_2 : (pm_chk 82 2).all (fun r => pm_okD prog_10_method_5_code r.1 r.2) = true := by decide +kernel
theorem pm_d82_3 : (pm_chk 82 3).all (fun r => pm_okD prog_10_method_5_code r.1 r.2) = true := by decide +kernel
theorem pm_d82_4 : (pm_chk 82 4).all (fun r => pm_okD prog_10_method_5_code r.1 r.2) = true := by decide +kernel
theorem pm_d82_5 : (pm_chk 82 5).all (fun r => pm_okD prog_10_method_5_code r.1 r.2) = true := by decide +kernel
theorem pm_d82_6 : (pm_chk 82 6).all (fun r => pm_okD prog_10_method_5_code r.1 r.2) = true := by decide +kernel
theorem pm_d82_7 : (pm_chk 82 7).all (fun r => pm_okD prog_10_method_5_code r.1 r.2) = true := by decide +kernel
theorem pm_d82_8 : (pm_chk 82 8).all (fun r => pm_okD prog_10_method_5_code r.1 r.2) = true := by decide +kernel
theorem pm_D82 : ∀ k, (pm_chk 82 k).all (fun r => pm_okD prog_10_method_5_code r.1 r.2) = true := fun k => match k with
  | 0 => pm_d82_0
  | 1 => pm_d82_1
  | 2 => pm_d82_2
  | 3 => pm_d82_3
  | 4 => pm_d82_4
  | 5 => pm_d82_5
  | 6 => pm_d82_6
  | 7 => pm_d82_7
  | 8 => pm_d82_8
  | _ + 9 => rfl
theorem pm_d83_0 : (pm_chk 83 0).all (fun r => pm_okD prog_15_method_65_code r.1 r.2) = true := by decide +kernel
theorem pm_D83 : ∀ k, (pm_chk 83 k).all (fun r => pm_okD prog_15_method_65_code r.1 r.2) = true := fun k => match k with
  | 0 => pm_d83_0
  | _ + 1 => rfl
theorem pm_d84_0 : (pm_chk 84 0).all (fun r => pm_okD prog_10_method_7_code r.1 r.2) = true := by decide +kernel
theorem pm_d84_1 : (pm_chk 84 1).all (fun r => pm_okD prog_10_method_7_code r.1 r.2) = true := by decide +kernel
theorem pm_d84_2 : (pm_chk 84 2).all (fun r => pm_okD prog_10_method_7_code r.1 r.2) = true := by decide +kernel
theorem pm_d84_3 : (pm_chk 84 3).all (fun r => pm_okD prog_10_method_7_code r.1 r.2) = true := by decide +kernel
theorem pm_d84_4 : (pm_chk 84 4).all (fun r => pm_okD prog_10_method_7_code r.1 r.2) = true := by decide +kernel
theorem pm_d84_5 : (pm_chk 84 5).all (fun r => pm_okD prog_10_method_7_code r.1 r.2) = true := by decide +kernel
theorem pm_D84 : ∀ k, (pm_chk 84 k).all (fun r => pm_okD prog_10_method_7_code r.1 r.2) = true := fun k => match k with
  | 0 => pm_d84_0
  | 1 => pm_d84_1
  | 2 => pm_d84_2
  | 3 => pm_d84_3
  | 4 => pm_d84_4
  | 5 => pm_d84_5
  | _ + 6 => rfl
theorem pm_d85_0 : (pm_chk 85 0).all (fun r => pm_okD prog_10_method_8_code r.1 r.2) = true := by decide +kernel
theorem pm_D85 : ∀ k, (pm_chk 85 k).all (fun r => pm_okD prog_10_method_8_code r.1 r.2) = true := fun k => match k with
  | 0 => pm_d85_0
  | _ + 1 => rfl
theorem pm_d86_0 : (pm_chk 86 0).all (fun r => pm_okD prog_15_method_70_code r.1 r.2) = true := by decide +kernel
theorem pm_D86 : ∀ k, (pm_chk 86 k).all (fun r => pm_okD prog_15_method_70_code r.1 r.2) = true := fun k => match k with
  | 0 => pm_d86_0
  | _ + 1 => rfl
theorem pm_d87_0 : (pm_chk 87 0).all (fun r => pm_okD prog_15_method_66_code r.1 r.2) = true := by decide +kernel
theorem pm_D87 : ∀ k, (pm_chk 87 k).all (fun r => pm_okD prog_15_method_66_code r.1 r.2) = true := fun k => match k with
  | 0 => pm_d87_0
  | _ + 1 => rfl
theorem pm_d88_0 : (pm_chk 88 0).all (fun r => pm_okD prog_15_method_47_code r.1 r.2) = true := by decide +kernel
theorem pm_D88 : ∀ k, (pm_chk 88 k).all (fun r => pm_okD prog_15_method_47_code r.1 r.2) = true := fun k => match k with
  | 0 => pm_d88_0
  | _ + 1 => rfl
theorem pm_d89_0 : (pm_chk 89 0).all (fun r => pm_okD prog_15_method_50_code r.1 r.2) = true := by decide +kernel
theorem pm_D89 : ∀ k, (pm_chk 89 k).all (fun r => pm_okD prog_15_method_50_code r.1 r.2) = true := fun k => match k with
  | 0 => pm_d89_0
  | _ + 1 => rfl
theorem pm_d90_0 : (pm_chk 90 0).all (fun r => pm_okD prog_10_method_6_code r.1 r.2) = true := by decide +kernel
theorem pm_d90_1 : (pm_chk 90 1).all (fun r => pm_okD prog_10_method_6_code r.1 r.2) = true := by decide +kernel
theorem pm_d90_2 : (pm_chk 90 2).all (fun r => pm_okD prog_10_method_6_code r.1 r.2) = true := by decide +kernel
theorem pm_d90_3 : (pm_chk 90 3).all (fun r => pm_okD prog_10_method_6_code r.1 r.2) = true := by decide +kernel
theorem pm_d90_4 : (pm_chk 90 4).all (fun r => pm_okD prog_10_method_6_code r.1 r.2) = true := by decide +kernel
theorem pm_d90_5 : (pm_chk 90 5).all (fun r => pm_okD prog_10_method_6_code r.1 r.2) = true := by decide +kernel
theorem pm_d90_6 : (pm_chk 90 6).all (fun r => pm_okD prog_10_method_6_code r.1 r.2) = true := by decide +kernel
theorem pm_d90_7 : (pm_chk 90 7).all (fun r => pm_okD prog_10_method_6_code r.1 r.2) = true := by decide +kernel
theorem pm_d90_8 : (pm_chk 90 8).all (fun r => pm_okD prog_10_method_6_code r.1 r.2) = true := by decide +kernel
theorem pm_d90_9 : (pm_chk 90 9).all (fun r => pm_okD prog_10_method_6_code r.1 r.2) = true := by decide +kernel
theorem pm_D90 : ∀ k, (pm_chk 90 k).all (fun r => pm_okD prog_10_method_6_code r.1 r.2) = true := fun k => match k with
  | 0 => pm_d90_0
  | 1 => pm_d90_1
  | 2 => pm_d90_2
  | 3 => pm_d90_3
  | 4 => pm_d90_4
  | 5 => pm_d90_5
  | 6 => pm_d90_6
  | 7 => pm_d90_7
  | 8 => pm_d90_8
  | 9 => pm_d90_9
  | _ + 10 => rfl
theorem pm_d91_0 : (pm_chk 91 0).all (fun r => pm_okD prog_10_method_4_code r.1 r.2) = true := by decide +kernel
theorem pm_D91 : ∀ k, (pm_chk 91 k).all (fun r => pm_okD prog_10_method_4_code r.1 r.2) = true := fun k => match k with
  | 0 => pm_d91_0
  | _ + 1 => rfl
theorem pm_d92_0 : (pm_chk 92 0).all (fun r => pm_okD prog_10_method_9_code r.1 r.2) = true := by decide +kernel
theorem pm_d92_1 : (pm_chk 92 1).all (fun r => pm_okD prog_10_method_9_code r.1 r.2) = true := by decide +kernel
theorem pm_d92_2 : (pm_chk 92 2).all (fun r => pm_okD prog_10_method_9_code r.1 r.2) = true := by decide +kernel
theorem pm_d92_3 : (pm_chk 92 3).all (fun r => pm_okD prog_10_method_9_code r.1 r.2) = true := by decide +kernel
theorem pm_d92_4 : (pm_chk 92 4).all (fun r => pm_okD prog_10_method_9_code r.1 r.2) = true := by decide +kernel
theorem pm_D92 : ∀ k, (pm_chk 92 k).all (fun r => pm_okD prog_10_method_9_code r.1 r.2) = true := fun k => match k with
  | 0 => pm_d92_0
  | 1 => pm_d92_1
  | 2 => pm_d92_2
  | 3 => pm_d92_3
  | 4 => pm_d92_4
  | _ + 5 => rfl
theorem pm_d93_0 : (pm_chk 93 0).all (fun r => pm_okD prog_11_method_14_code r.1 r.2) = true := by decide +kernel
theorem pm_d93_1 : (pm_chk 93 1).all (fun r => pm_okD prog_11_method_14_code r.1 r.2) = true := by decide +kernel
theorem pm_D93 : ∀ k, (pm_chk 93 k).all (fun r => pm_okD prog_11_method_14_code r.1 r.2) = true := fun k => match k with
  | 0 => pm_d93_0
  | 1 => pm_d93_1
  | _ + 2 => rfl
theorem pm_d94_0 : (pm_chk 94 0).all (fun r => pm_okD prog_10_method_10_code r.1 r.2) = true := by decide +kernel
theorem pm_d94_1 : (pm_chk 94 1).all (fun r => pm_okD prog_10_method_10_code r.1 r.2) = true := by decide +kernel
theorem pm_D94 : ∀ k, (pm_chk 94 k).all (fun r => pm_okD prog_10_method_10_code r.1 r.2) = true := fun k => match k with
  | 0 => pm_d94_0
  | 1 => pm_d94_1
  | _ + 2 => rfl
theorem pm_d95_0 : (pm_chk 95 0).all (fun r => pm_okD prog_10_method_11_code r.1 r.2) = true := by decide +kernel
theorem pm_d95_1 : (pm_chk 95 1).all (fun r => pm_okD prog_10_method_11_code r.1 r.2) = true := by decide +kernel
theorem pm_D95 : ∀ k, (pm_chk 95 k).all (fun r => pm_okD prog_10_method_11_code r.1 r.2) = true := fun k => match k with
  | 0 => pm_d95_0
  | 1 => pm_d95_1
  | _ + 2 => rfl
theorem pm_d96_0 : (pm_chk 96 0).all (fun r => pm_okD prog_10_method_12_code r.1 r.2) = true := by decide +kernel
theorem pm_d96_1 : (pm_chk 96 1).all (fun r => pm_okD prog_10_method_12_code r.1 r.2) = true := by decide +kernel
theorem pm_D96 : ∀ k, (pm_chk 96 k).all (fun r => pm_okD prog_10_method_12_code r.1 r.2) = true := fun k => match k with
  | 0 => pm_d96_0
  | 1 => pm_d96_1
  | _ + 2 => rfl
theorem pm_d97_0 : (pm_chk 97 0).all (fun r => pm_okD prog_10_method_13_code r.1 r.2) = true := by decide +kernel
theorem pm_d97_1 : (pm_chk 97 1).all (fun r => pm_okD prog_10_method_13_code r.1 r.2) = true := by decide +kernel
theorem pm_d97_2 : (pm_chk 97 2).all (fun r => pm_okD prog_10_method_13_code r.1 r.2) = true := by decide +kernel
theorem pm_d97_3 : (pm_chk 97 3).all (fun r => pm_okD prog_10_method_13_code r.1 r.2) = true := by decide +kernel
theorem pm_d97_4 : (pm_chk 97 4).all (fun r => pm_okD prog_10_method_13_code r.1 r.2) = true := by decide +kernel
theorem pm_D97 : ∀ k, (pm_chk 97 k).all (fun r => pm_okD prog_10_method_13_code r.1 r.2) = true := fun k => match k with
  | 0 => pm_d97_0
  | 1 => pm_d97_1
  | 2 => pm_d97_2
  | 3 => pm_d97_3
  | 4 => pm_d97_4
  | _ + 5 => rfl
theorem pm_d98_0 : (pm_chk 98 0).all (fun r => pm_okD prog_6_method_5_code r.1 r.2) = true := by decide +kernel
theorem pm_d98_1 : (pm_chk 98 1).all (fun r => pm_okD prog_6_method_5_code r.1 r.2) = true := by decide +kernel
theorem pm_d98_2 : (pm_chk 98 2).all (fun r => pm_okD prog_6_method_5_code r.1 r.2) = true := by decide +kernel
theorem pm_d98_3 : (pm_chk 98 3).all (fun r => pm_okD prog_6_method_5_code r.1 r.2) = true := by decide +kernel
theorem pm_d98_4 : (pm_chk 98 4).all (fun r => pm_okD prog_6_method_5_code r.1 r.2) = true := by decide +kernel
theorem pm_D98 : ∀ k, (pm_chk 98 k).all (fun r => pm_okD prog_6_method_5_code r.1 r.2) = true := fun k => match k with
  | 0 => pm_d98_0
  | 1 => pm_d98_1
  | 2 => pm_d98_2
  | 3 => pm_d98_3
  | 4 => pm_d98_4
  | _ + 5 => rfl
theorem pm_d99_0 : (pm_chk 99 0).all (fun r => pm_okD prog_5_method_3_code r.1 r.2) = true := by decide +kernel
theorem pm_d99_1 : (pm_chk 99 1).all (fun r => pm_okD prog_5_method_3_code r.1 r.2) = true := by decide +kernel
theorem pm_d99_2 : (pm_chk 99 2).all (fun r => pm_okD prog_5_method_3_code r.1 r.2) = true := by decide +kernel
theorem pm_d99_3 : (pm_chk 99 3).all (fun r => pm_okD prog_5_method_3_code r.1 r.2) = true := by decide +kernel
theorem pm_d99_4 : (pm_chk 99 4).all (fun r => pm_okD prog_5_method_3_code r.1 r.2) = true := by decide +kernel
theorem pm_D99 : ∀ k, (pm_chk 99 k).all (fun r => pm_okD prog_5_method_3_code r.1 r.2) = true := fun k => match k with
  | 0 => pm_d99_0
  | 1 => pm_d99_1
  | 2 => pm_d99_2
  | 3 => pm_d99_3
  | 4 => pm_d99_4
  | _ + 5 => rfl
theorem pm_d100_0 : (pm_chk 100 0).all (fun r => pm_okD prog_5_method_4_code r.1 r.2) = true := by decide +kernel
theorem pm_d100_1 : (pm_chk 100 1).all (fun r => pm_okD prog_5_method_4_code r.1 r.2) = true := by decide +kernel
theorem pm_d100_2 : (pm_chk 100 2).all (fun r => pm_okD prog_5_method_4_code r.1 r.2) = true := by decide +kernel
theorem pm_D100 : ∀ k, (pm_chk 100 k).all (fun r => pm_okD prog_5_method_4_code r.1 r.2) = true := fun k => match k with
  | 0 => pm_d100_0
  | 1 => pm_d100_1
  | 2 => pm_d100_2
  | _ + 3 => rfl
theorem pm_d101_0 : (pm_chk 101 0).all (fun r => pm_okD prog_5_method_5_code r.1 r.2) = true := by decide +kernel
theorem pm_d101_1 : (pm_chk 101 1).all (fun r => pm_okD prog_5_method_5_code r.1 r.2) = true := by decide +kernel
theorem pm_D101 : ∀ k, (pm_chk 101 k).all (fun r => pm_okD prog_5_method_5_code r.1 r.2) = true := fun k => match k with
  | 0 => pm_d101_0
  | 1 => pm_d101_1
  | _ + 2 => rfl
theorem pm_d102_0 : (pm_chk 102 0).all (fun r => pm_okD prog_10_method_14_code r.1 r.2) = true := by decide +kernel
theorem pm_d102_1 : (pm_chk 102 1).all (fun r => pm_okD prog_10_method_14_code r.1 r.2) = true := by decide +kernel
theorem pm_d102_2 : (pm_chk 102 2).all (fun r => pm_okD prog_10_method_14_code r.1 r.2) = true := by decide +kernel
theorem pm_D102 : ∀ k, (pm_chk 102 k).all (fun r => pm_okD prog_10_method_14_code r.1 r.2) = true := fun k => match k with
  | 0 => pm_d102_0
  | 1 => pm_d102_1
  | 2 => pm_d102_2
  | _ + 3 => rfl
theorem pm_d103_0 : (pm_chk 103 0).all (fun r => pm_okD prog_6_method_6_code r.1 r.2) = true := by decide +kernel
theorem pm_d103_1 : (pm_chk 103 1).all (fun r => pm_okD prog_6_method_6_code r.1 r.2) = true := by decide +kernel
theorem pm_d103_2 : (pm_chk 103 2).all (fun r => pm_okD prog_6_method_6_code r.1 r.2) = true := by decide +kernel
theorem pm_D103 : ∀ k, (pm_chk 103 k).all (fun r => pm_okD prog_6_method_6_code r.1 r.2) = true := fun k => match k with
  | 0 => pm_d103_0
  | 1 => pm_d103_1
  | 2 => pm_d103_2
  | _ + 3 => rfl
theorem pm_d104_0 : (pm_chk 104 0).all (fun r => pm_okD prog_5_method_6_code r.1 r.2) = true := by decide +kernel
theorem pm_d104_1 : (pm_chk 104 1).all (fun r => pm_okD prog_5_method_6_code r.1 r.2) = true := by decide +kernel
theorem pm_d104_2 : (pm_chk 104 2).all (fun r => pm_okD prog_5_method_6_code r.1 r.2) = true := by decide +kernel
theorem pm_D104 : ∀ k, (pm_chk 104 k).all (fun r => pm_okD prog_5_method_6_code r.1 r.2) = true := fun k => match k with
  | 0 => pm_d104_0
  | 1 => pm_d104_1
  | 2 => pm_d104_2
  | _ + 3 => rfl
theorem pm_d105_0 : (pm_chk 105 0).all (fun r => pm_okD prog_1_method_14_code r.1 r.2) = true := by decide +kernel
theorem pm_d105_1 : (pm_chk 105 1).all (fun r => pm_okD prog_1_method_14_code r.1 r.2) = true := by decide +kernel
theorem pm_D105 : ∀ k, (pm_chk 105 k).all (fun r => pm_okD prog_1_method_14_code r.1 r.2) = true := fun k => match k with
  | 0 => pm_d105_0
  | 1 => pm_d105_1
  | _ + 2 => rfl
theorem pm_d106_0 : (pm_chk 106 0).all (fun r => pm_okD prog_6_method_7_code r.1 r.2) = true := by decide +kernel
theorem pm_D106 : ∀ k, (pm_chk 106 k).all (fun r => pm_okD prog_6_method_7_code r.1 r.2) = true := fun k => match k with
  | 0 => pm_d106_0
  | _ + 1 => rfl
theorem pm_d107_0 : (pm_chk 107 0).all (fun r => pm_okD prog_6_method_10_code r.1 r.2) = true := by decide +kernel
theorem pm_D107 : ∀ k, (pm_chk 107 k).all (fun r => pm_okD prog_6_method_10_code r.1 r.2) = true := fun k => match k with
  | 0 => pm_d107_0
  | _ + 1 => rfl
theorem pm_d108_0 : (pm_chk 108 0).all (fun r => pm_okD prog_1_method_15_code r.1 r.2) = true := by decide +kernel
theorem pm_d108_1 : (pm_chk 108 1).all (fun r => pm_okD prog_1_method_15_code r.1 r.2) = true := by decide +kernel
theorem pm_D108 : ∀ k, (pm_chk 108 k).all (fun r => pm_okD prog_1_method_15_code r.1 r.2) = true := fun k => match k with
  | 0 => pm_d108_0
  | 1 => pm_d108_1
  | _ + 2 => rfl
theorem pm_d109_0 : (pm_chk 109 0).all (fun r => pm_okD prog_6_method_12_code r.1 r.2) = true := by decide +kernel
theorem pm_D109 : ∀ k, (pm_chk 109 k).all (fun r => pm_okD prog_6_method_12_code r.1 r.2) = true := fun k => match k with
  | 0 => pm_d109_0
  | _ + 1 => rfl
theorem pm_d110_0 : (pm_chk 110 0).all (fun r => pm_okD prog_6_method_11_code r.1 r.2) = true := by decide +kernel
theorem pm_d110_1 : (pm_chk 110 1).all (fun r => pm_okD prog_6_method_11_code r.1 r.2) = true := by decide +kernel
theorem pm_D110 : ∀ k, (pm_chk 110 k).all (fun r => pm_okD prog_6_method_11_code r.1 r.2) = true := fun k => match k with
  | 0 => pm_d110_0
  | 1 => pm_d110_1
  | _ + 2 => rfl
theorem pm_d111_0 : (pm_chk 111 0).all (fun r => pm_okD prog_1_method_16_code r.1 r.2) = true := by decide +kernel
theorem pm_d111_1 : (pm_chk 111 1).all (fun r => pm_okD prog_1_method_16_code r.1 r.2) = true := by decide +kernel
theorem pm_D111 : ∀ k, (pm_chk 111 k).all (fun r => pm_okD prog_1_method_16_code r.1 r.2) = true := fun k => match k with
  | 0 => pm_d111_0
  | 1 => pm_d111_1
  | _ + 2 => rfl
theorem pm_d112_0 : (pm_chk 112 0).all (fun r => pm_okD prog_5_method_8_code r.1 r.2) = true := by decide +kernel
theorem pm_D112 : ∀ k, (pm_chk 112 k).all (fun r => pm_okD prog_5_method_8_code r.1 r.2) = true := fun k => match k with
  | 0 => pm_d112_0
  | _ + 1 => rfl
theorem pm_d113_0 : (pm_chk 113 0).all (fun r => pm_okD prog_1_method_17_code r.1 r.2) = true := by decide +kernel
theorem pm_d113_1 : (pm_chk 113 1).all (fun r => pm_okD prog_1_method_17_code r.1 r.2) = true := by decide +kernel
theorem pm_D113 : ∀ k, (pm_chk 113 k).all (fun r => pm_okD prog_1_method_17_code r.1 r.2) = true := fun k => match k with
  | 0 => pm_d113_0
  | 1 => pm_d113_1
  | _ + 2 => rfl
theorem pm_d114_0 : (pm_chk 114 0).all (fun r => pm_okD prog_5_method_9_code r.1 r.2) = true := by decide +kernel
theorem pm_D114 : ∀ k, (pm_chk 114 k).all (fun r => pm_okD prog_5_method_9_code r.1 r.2) = true := fun k => match k with
  | 0 => pm_d114_0
  | _ + 1 => rfl
theorem pm_d115_0 : (pm_chk 115 0).all (fun r => pm_okD prog_1_method_18_code r.1 r.2) = true := by decide +kernel
theorem pm_d115_1 : (pm_chk 115 1).all (fun r => pm_okD prog_1_method_18_code r.1 r.2) = true := by decide +kernel
theorem pm_D115 : ∀ k, (pm_chk 115 k).all (fun r => pm_okD prog_1_method_18_code r.1 r.2) = true := fun k => match k with
  | 0 => pm_d115_0
  | 1 => pm_d115_1
  | _ + 2 => rfl
theorem pm_d116_0 : (pm_chk 116 0).all (fun r => pm_okD prog_5_method_10_code r.1 r.2) = true := by decide +kernel
theorem pm_D116 : ∀ k, (pm_chk 116 k).all (fun r => pm_okD prog_5_method_10_code r.1 r.2) = true := fun k => match k with
  | 0 => pm_d116_0
  | _ + 1 => rfl
theorem pm_d117_0 : (pm_chk 117 0).all (fun r => pm_okD prog_1_method_19_code r.1 r.2) = true := by decide +kernel
theorem pm_d117_1 : (pm_chk 117 1).all (fun r => pm_okD prog_1_method_19_code r.1 r.2) = true := by decide +kernel
theorem pm_D117 : ∀ k, (pm_chk 117 k).all (fun r => pm_okD prog_1_method_19_code r.1 r.2) = true := fun k => match k with
  | 0 => pm_d117_0
  | 1 => pm_d117_1
  | _ + 2 => rfl
theorem pm_d118_0 : (pm_chk 118 0).all (fun r => pm_okD prog_6_method_8_code r.1 r.2) = true := by decide +kernel
theorem pm_D118 : ∀ k, (pm_chk 118 k).all (fun r => pm_okD prog_6_method_8_code r.1 r.2) = true := fun k => match k with
  | 0 => pm_d118_0
  | _ + 1 => rfl
theorem pm_d119_0 : (pm_chk 119 0).all (fun r => pm_okD prog_1_method_20_code r.1 r.2) = true := by decide +kernel
theorem pm_D119 : ∀ k, (pm_chk 119 k).all (fun r => pm_okD prog_1_method_20_code r.1 r.2) = true := fun k => match k with
  | 0 => pm_d119_0
  | _ + 1 => rfl
theorem pm_d120_0 : (pm_chk 120 0).all (fun r => pm_okD prog_5_method_7_code r.1 r.2) = true := by decide +kernel
theorem pm_d120_1 : (pm_chk 120 1).all (fun r => pm_okD prog_5_method_7_code r.1 r.2) = true := by decide +kernel
theorem pm_D120 : ∀ k, (pm_chk 120 k).all (fun r => pm_okD prog_5_method_7_code r.1 r.2) = true := fun k => match k with
  | 0 => pm_d120_0
  | 1 => pm_d120_1
  | _ + 2 => rfl
theorem pm_d121_0 : (pm_chk 121 0).all (fun r => pm_okD prog_1_method_21_code r.1 r.2) = true := by decide +kernel
theorem pm_d121_1 : (pm_chk 121 1).all (fun r => pm_okD prog_1_method_21_code r.1 r.2) = true := by decide +kernel
theorem pm_d121_2 : (pm_chk 121 2).all (fun r => pm_okD prog_1_method_21_code r.1 r.2) = true := by decide +kernel
theorem pm_D121 : ∀ k, (pm_chk 121 k).all (fun r => pm_okD prog_1_method_21_code r.1 r.2) = true := fun k => match k with
  | 0 => pm_d121_0
  | 1 => pm_d121_1
  | 2 => pm_d121_2
  | _ + 3 => rfl
theorem pm_d122_0 : (pm_chk 122 0).all (fun r => pm_okD prog_6_method_13_code r.1 r.2) = true := by decide +kernel
theorem pm_D122 : ∀ k, (pm_chk 122 k).all (fun r => pm_okD prog_6_method_13_code r.1 r.2) = true := fun k => match k with
  | 0 => pm_d122_0
  | _ + 1 => rfl
theorem pm_d123_0 : (pm_chk 123 0).all (fun r => pm_okD prog_1_method_22_code r.1 r.2) = true := by decide +kernel
theorem pm_d123_1 : (pm_chk 123 1).all (fun r => pm_okD prog_1_method_22_code r.1 r.2) = true := by decide +kernel
theorem pm_D123 : ∀ k, (pm_chk 123 k).all (fun r => pm_okD prog_1_method_22_code r.1 r.2) = true := fun k => match k with
  | 0 => pm_d123_0
  | 1 => pm_d123_1
  | _ + 2 => rfl
theorem pm_d124_0 : (pm_chk 124 0).all (fun r => pm_okD prog_1_method_23_code r.1 r.2) = true := by decide +kernel
theorem pm_d124_1 : (pm_chk 124 1).all (fun r => pm_okD prog_1_method_23_code r.1 r.2) = true := by decide +kernel
theorem pm_D124 : ∀ k, (pm_chk 124 k).all (fun r => pm_okD prog_1_method_23_code r.1 r.2) = true := fun k => match k with
  | 0 => pm_d124_0
  | 1 => pm_d124_1
  | _ + 2 => rfl
theorem pm_d125_0 : (pm_chk 125 0).all (fun r => pm_okD prog_3_method_3_code r.1 r.2) = true := by decide +kernel
theorem pm_d125_1 : (pm_chk 125 1).all (fun r => pm_okD prog_3_method_3_code r.1 r.2) = true := by decide +kernel
theorem pm_D125 : ∀ k, (pm_chk 125 k).all (fun r => pm_okD prog_3_method_3_code r.1 r.2) = true := fun k => match k with
  | 0 => pm_d125_0
  | 1 => pm_d125_1
  | _ + 2 => rfl
theorem pm_d126_0 : (pm_chk 126 0).all (fun r => pm_okD prog_2_method_6_code r.1 r.2) = true := by decide +kernel
theorem pm_d126_1 : (pm_chk 126 1).all (fun r => pm_okD prog_2_method_6_code r.1 r.2) = true := by decide +kernel
theorem pm_D126 : ∀ k, (pm_chk 126 k).all (fun r => pm_okD prog_2_method_6_code r.1 r.2) = true := fun k => match k with
  | 0 => pm_d126_0
  | 1 => pm_d126_1
  | _ + 2 => rfl
theorem pm_d127_0 : (pm_chk 127 0).all (fun r => pm_okD prog_6_method_9_code r.1 r.2) = true := by decide +kernel
theorem pm_d127_1 : (pm_chk 127 1).all (fun r => pm_okD prog_6_method_9_code r.1 r.2) = true := by decide +kernel
theorem pm_D127 : ∀ k, (pm_chk 127 k).all (fun r => pm_okD prog_6_method_9_code r.1 r.2) = true := fun k => match k with
  | 0 => pm_d127_0
  | 1 => pm_d127_1
  | _ + 2 => rfl
theorem pm_d128_0 : (pm_chk 128 0).all (fun r => pm_okD prog_1_method_24_code r.1 r.2) = true := by decide +kernel
theorem pm_d128_1 : (pm_chk 128 1).all (fun r => pm_okD prog_1_method_24_code r.1 r.2) = true := by decide +kernel
theorem pm_d128_2 : (pm_chk 128 2).all (fun r => pm_okD prog_1_method_24_code r.1 r.2) = true := by decide +kernel
theorem pm_D128 : ∀ k, (pm_chk 128 k).all (fun r => pm_okD prog_1_method_24_code r.1 r.2) = true := fun k => match k with
  | 0 => pm_d128_0
  | 1 => pm_d128_1
  | 2 => pm_d128_2
  | _ + 3 => rfl
