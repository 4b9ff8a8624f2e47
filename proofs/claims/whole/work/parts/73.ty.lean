/-! the types of the fields (printed by wip/gen/ty.py) -/
theorem ty_0_0 : xp_ty 0 0 = .array (.int) := by decide +kernel
theorem ty_0_1 : xp_ty 0 1 = .array (.int) := by decide +kernel
theorem ty_0_2 : xp_ty 0 2 = .array (.int) := by decide +kernel
theorem ty_0_3 : xp_ty 0 3 = .array (.int) := by decide +kernel
theorem ty_0_4 : xp_ty 0 4 = .array (.array (.int)) := by decide +kernel
theorem ty_0_5 : xp_ty 0 5 = .array (.int) := by decide +kernel
theorem ty_0_6 : xp_ty 0 6 = .int := by decide +kernel
theorem ty_0_7 : xp_ty 0 7 = .int := by decide +kernel
theorem ty_1_0 : xp_ty 1 0 = .array (.int) := by decide +kernel
theorem ty_1_1 : xp_ty 1 1 = .int := by decide +kernel
theorem ty_1_2 : xp_ty 1 2 = .int := by decide +kernel
theorem ty_1_3 : xp_ty 1 3 = .boolean := by decide +kernel
theorem ty_2_0 : xp_ty 2 0 = .object "DilemmaProver$Text" := by decide +kernel
theorem ty_2_1 : xp_ty 2 1 = .object "DilemmaProver$Circuit" := by decide +kernel
theorem ty_2_2 : xp_ty 2 2 = .int := by decide +kernel
theorem ty_2_3 : xp_ty 2 3 = .int := by decide +kernel
theorem ty_2_4 : xp_ty 2 4 = .int := by decide +kernel
theorem ty_2_5 : xp_ty 2 5 = .int := by decide +kernel
theorem ty_2_6 : xp_ty 2 6 = .int := by decide +kernel
theorem ty_2_7 : xp_ty 2 7 = .int := by decide +kernel
theorem ty_3_0 : xp_ty 3 0 = .object "DilemmaProver$Circuit" := by decide +kernel
theorem ty_3_1 : xp_ty 3 1 = .object "DilemmaProver$Equivalence" := by decide +kernel
theorem ty_3_2 : xp_ty 3 2 = .array (.object "DilemmaProver$Equivalence") := by decide +kernel
theorem ty_3_3 : xp_ty 3 3 = .array (.object "DilemmaProver$Equivalence") := by decide +kernel
theorem ty_3_4 : xp_ty 3 4 = .array (.int) := by decide +kernel
theorem ty_3_5 : xp_ty 3 5 = .int := by decide +kernel
theorem ty_3_6 : xp_ty 3 6 = .boolean := by decide +kernel
theorem ty_4_0 : xp_ty 4 0 = .object "DilemmaProver$Circuit" := by decide +kernel
theorem ty_4_1 : xp_ty 4 1 = .array (.long) := by decide +kernel
theorem ty_5_0 : xp_ty 5 0 = .array (.byte) := by decide +kernel
theorem ty_5_1 : xp_ty 5 1 = .int := by decide +kernel
theorem ty_6_0 : xp_ty 6 0 = .object "DilemmaProver$Text" := by decide +kernel
theorem ty_6_1 : xp_ty 6 1 = .object "DilemmaProver$Circuit" := by decide +kernel
theorem ty_6_2 : xp_ty 6 2 = .object "DilemmaProver$Reader" := by decide +kernel
theorem ty_6_3 : xp_ty 6 3 = .object "DilemmaProver$Equivalence" := by decide +kernel
theorem ty_6_4 : xp_ty 6 4 = .object "DilemmaProver$Equivalence" := by decide +kernel
theorem ty_6_5 : xp_ty 6 5 = .object "DilemmaProver$Saturator" := by decide +kernel
theorem ty_6_6 : xp_ty 6 6 = .object "DilemmaProver$Table" := by decide +kernel
theorem ty_7_0 : xp_ty 7 0 = .array (.int) := by decide +kernel
theorem ty_7_1 : xp_ty 7 1 = .array (.int) := by decide +kernel
theorem ty_7_2 : xp_ty 7 2 = .array (.int) := by decide +kernel
theorem ty_7_3 : xp_ty 7 3 = .int := by decide +kernel
theorem ty_7_4 : xp_ty 7 4 = .int := by decide +kernel
theorem ty_7_5 : xp_ty 7 5 = .array (.int) := by decide +kernel
theorem ty_7_6 : xp_ty 7 6 = .array (.int) := by decide +kernel
theorem ty_7_7 : xp_ty 7 7 = .array (.int) := by decide +kernel
theorem ty_7_8 : xp_ty 7 8 = .array (.int) := by decide +kernel
theorem ty_7_9 : xp_ty 7 9 = .boolean := by decide +kernel
theorem ty_7_10 : xp_ty 7 10 = .array (.int) := by decide +kernel
theorem ty_7_11 : xp_ty 7 11 = .int := by decide +kernel
theorem ty_7_12 : xp_ty 7 12 = .int := by decide +kernel
theorem ty_7_13 : xp_ty 7 13 = .int := by decide +kernel
theorem ty_7_14 : xp_ty 7 14 = .int := by decide +kernel
theorem ty_7_15 : xp_ty 7 15 = .int := by decide +kernel
theorem ty_7_16 : xp_ty 7 16 = .boolean := by decide +kernel
theorem ty_7_17 : xp_ty 7 17 = .int := by decide +kernel
theorem ty_7_18 : xp_ty 7 18 = .int := by decide +kernel
theorem ty_7_19 : xp_ty 7 19 = .int := by decide +kernel
theorem ty_7_20 : xp_ty 7 20 = .int := by decide +kernel
theorem ty_7_21 : xp_ty 7 21 = .array (.int) := by decide +kernel
theorem ty_7_22 : xp_ty 7 22 = .array (.int) := by decide +kernel
theorem ty_7_23 : xp_ty 7 23 = .array (.int) := by decide +kernel
theorem ty_7_24 : xp_ty 7 24 = .array (.int) := by decide +kernel
theorem ty_7_25 : xp_ty 7 25 = .int := by decide +kernel
theorem ty_7_26 : xp_ty 7 26 = .array (.int) := by decide +kernel
theorem ty_7_27 : xp_ty 7 27 = .array (.boolean) := by decide +kernel
theorem ty_7_28 : xp_ty 7 28 = .array (.int) := by decide +kernel
theorem ty_7_29 : xp_ty 7 29 = .array (.boolean) := by decide +kernel
theorem ty_7_30 : xp_ty 7 30 = .array (.int) := by decide +kernel
theorem ty_7_31 : xp_ty 7 31 = .array (.int) := by decide +kernel
theorem ty_7_32 : xp_ty 7 32 = .array (.int) := by decide +kernel
theorem ty_7_33 : xp_ty 7 33 = .array (.int) := by decide +kernel
theorem ty_7_34 : xp_ty 7 34 = .array (.int) := by decide +kernel
theorem ty_7_35 : xp_ty 7 35 = .int := by decide +kernel
theorem ty_7_36 : xp_ty 7 36 = .int := by decide +kernel
theorem ty_7_37 : xp_ty 7 37 = .int := by decide +kernel
theorem ty_7_38 : xp_ty 7 38 = .int := by decide +kernel
theorem ty_7_39 : xp_ty 7 39 = .int := by decide +kernel
theorem ty_7_40 : xp_ty 7 40 = .array (.int) := by decide +kernel
theorem df_0 (q : Nat) : xo_df (xp_ty 0 q) = if q < 6 then .null else .int 0 := by
  match q with
  | 0 => rw [ty_0_0]; rfl
  | 1 => rw [ty_0_1]; rfl
  | 2 => rw [ty_0_2]; rfl
  | 3 => rw [ty_0_3]; rfl
  | 4 => rw [ty_0_4]; rfl
  | 5 => rw [ty_0_5]; rfl
  | 6 => rw [ty_0_6]; rfl
  | 7 => rw [ty_0_7]; rfl
  | n + 8 => rw [show xp_ty 0 (n + 8) = xp_ty 0 7 from rfl, ty_0_7, if_neg (by omega)]; rfl
theorem df_1 (q : Nat) : xo_df (xp_ty 1 q) = if q = 0 then .null else .int 0 := by
  match q with
  | 0 => rw [ty_1_0]; rfl
  | 1 => rw [ty_1_1]; rfl
  | 2 => rw [ty_1_2]; rfl
  | 3 => rw [ty_1_3]; rfl
  | n + 4 => rw [show xp_ty 1 (n + 4) = xp_ty 1 3 from rfl, ty_1_3, if_neg (by omega)]; rfl
theorem df_2 (q : Nat) : xo_df (xp_ty 2 q) = if q < 2 then .null else .int 0 := by
  match q with
  | 0 => rw [ty_2_0]; rfl
  | 1 => rw [ty_2_1]; rfl
  | 2 => rw [ty_2_2]; rfl
  | 3 => rw [ty_2_3]; rfl
  | 4 => rw [ty_2_4]; rfl
  | 5 => rw [ty_2_5]; rfl
  | 6 => rw [ty_2_6]; rfl
  | 7 => rw [ty_2_7]; rfl
  | n + 8 => rw [show xp_ty 2 (n + 8) = xp_ty 2 7 from rfl, ty_2_7, if_neg (by omega)]; rfl
theorem df_3 (q : Nat) : xo_df (xp_ty 3 q) = if q < 5 then .null else .int 0 := by
  match q with
  | 0 => rw [ty_3_0]; rfl
  | 1 => rw [ty_3_1]; rfl
  | 2 => rw [ty_3_2]; rfl
  | 3 => rw [ty_3_3]; rfl
  | 4 => rw [ty_3_4]; rfl
  | 5 => rw [ty_3_5]; rfl
  | 6 => rw [ty_3_6]; rfl
  | n + 7 => rw [show xp_ty 3 (n + 7) = xp_ty 3 6 from rfl, ty_3_6, if_neg (by omega)]; rfl
theorem df_4 (q : Nat) : xo_df (xp_ty 4 q) = .null := by
  match q with
  | 0 => rw [ty_4_0]; rfl
  | 1 => rw [ty_4_1]; rfl
  | n + 2 => rw [show xp_ty 4 (n + 2) = xp_ty 4 1 from rfl, ty_4_1]; rfl
theorem df_5 (q : Nat) : xo_df (xp_ty 5 q) = if q = 0 then .null else .int 0 := by
  match q with
  | 0 => rw [ty_5_0]; rfl
  | 1 => rw [ty_5_1]; rfl
  | n + 2 => rw [show xp_ty 5 (n + 2) = xp_ty 5 1 from rfl, ty_5_1, if_neg (by omega)]; rfl
theorem df_6 (q : Nat) : xo_df (xp_ty 6 q) = .null := by
  match q with
  | 0 => rw [ty_6_0]; rfl
  | 1 => rw [ty_6_1]; rfl
  | 2 => rw [ty_6_2]; rfl
  | 3 => rw [ty_6_3]; rfl
  | 4 => rw [ty_6_4]; rfl
  | 5 => rw [ty_6_5]; rfl
  | 6 => rw [ty_6_6]; rfl
  | n + 7 => rw [show xp_ty 6 (n + 7) = xp_ty 6 6 from rfl, ty_6_6]; rfl
theorem df_7 (q : Nat) : xo_df (xp_ty 7 q) = if md_ad q = 0 then .int 0 else .null := by
  match q with
  | 0 => rw [ty_7_0]; rfl
  | 1 => rw [ty_7_1]; rfl
  | 2 => rw [ty_7_2]; rfl
  | 3 => rw [ty_7_3]; rfl
  | 4 => rw [ty_7_4]; rfl
  | 5 => rw [ty_7_5]; rfl
  | 6 => rw [ty_7_6]; rfl
  | 7 => rw [ty_7_7]; rfl
  | 8 => rw [ty_7_8]; rfl
  | 9 => rw [ty_7_9]; rfl
  | 10 => rw [ty_7_10]; rfl
  | 11 => rw [ty_7_11]; rfl
  | 12 => rw [ty_7_12]; rfl
  | 13 => rw [ty_7_13]; rfl
  | 14 => rw [ty_7_14]; rfl
  | 15 => rw [ty_7_15]; rfl
  | 16 => rw [ty_7_16]; rfl
  | 17 => rw [ty_7_17]; rfl
  | 18 => rw [ty_7_18]; rfl
  | 19 => rw [ty_7_19]; rfl
  | 20 => rw [ty_7_20]; rfl
  | 21 => rw [ty_7_21]; rfl
  | 22 => rw [ty_7_22]; rfl
  | 23 => rw [ty_7_23]; rfl
  | 24 => rw [ty_7_24]; rfl
  | 25 => rw [ty_7_25]; rfl
  | 26 => rw [ty_7_26]; rfl
  | 27 => rw [ty_7_27]; rfl
  | 28 => rw [ty_7_28]; rfl
  | 29 => rw [ty_7_29]; rfl
  | 30 => rw [ty_7_30]; rfl
  | 31 => rw [ty_7_31]; rfl
  | 32 => rw [ty_7_32]; rfl
  | 33 => rw [ty_7_33]; rfl
  | 34 => rw [ty_7_34]; rfl
  | 35 => rw [ty_7_35]; rfl
  | 36 => rw [ty_7_36]; rfl
  | 37 => rw [ty_7_37]; rfl
  | 38 => rw [ty_7_38]; rfl
  | 39 => rw [ty_7_39]; rfl
  | 40 => rw [ty_7_40]; rfl
  | n + 41 => rw [show xp_ty 7 (n + 41) = xp_ty 7 40 from rfl, ty_7_40]; rfl
