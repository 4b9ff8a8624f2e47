/-! what the tables say of the program's data (printed by wip/gen/facts.py) -/
def xp_tw : List Cond := lw_tbl.filter goodWord
theorem xp_tw_in {w : Cond} (h : w ∈ lw_tbl) (hg : goodWord w = true) : w ∈ xp_tw := List.mem_filter.mpr ⟨h, hg⟩
def xf_at (i : Nat) (w : Cond) : Bool := decide (lw_tbl[i]? = some w) && goodWord w
theorem xf_in {i : Nat} {w : Cond} (h : xf_at i w = true) : w ∈ xp_tw := by
  unfold xf_at at h
  rw [Bool.and_eq_true] at h
  exact xp_tw_in (List.mem_of_getElem? (of_decide_eq_true h.1)) h.2
def xp_ws (mid : Nat) : List Cond := Cond.code (xp_nm mid) (xp_code mid) (xp_ml mid) (xp_rt mid) :: xp_tw
/-- what stands on a method -/
def xf_W (k : Nat) : Prop := Cond.code (xp_nm k) (xp_code k) (xp_ml k) (xp_rt k) ∈ xp_tw ∧ Cond.initialized (xp_nm k).cls ∈ xp_tw ∧ (xp_st k = true → Cond.static (xp_nm k) ∈ xp_tw) ∧ (xp_st k = false → Cond.instanceMethod (xp_nm k) ∈ xp_tw) ∧ (xp_st k = false → (xp_nm k).name ≠ "<init>" → Cond.selects (xp_nm k).cls (xp_nm k) (xp_nm k) ∈ xp_tw)
def xf_V (k : Nat) : Prop := xp_ml k ≤ 40 ∧ plainName (xp_nm k).cls = true ∧ xp_R (xp_own k) = (xp_nm k).cls ∧ ((xp_nm k).cls ≠ "java/lang/invoke/MethodHandle" ∧ (xp_nm k).cls ≠ "java/lang/invoke/VarHandle" ∧ (parseMethodDescriptor (xp_nm k).desc).map (fun d => d.parameters.length) = some (xp_np k))
set_option maxRecDepth 100000 in
theorem xw_1 : xf_W 1 := ⟨xp_tw_in (List.mem_of_getElem? (i := 747) rfl) rfl, xp_tw_in (List.mem_of_getElem? (i := 83) (by decide +kernel)) rfl, fun h => absurd h (by decide +kernel), fun _ => xp_tw_in (List.mem_of_getElem? (i := 746) (by decide +kernel)) rfl, fun _ h => absurd (by decide +kernel) h⟩
set_option maxRecDepth 100000 in
theorem xw_2 : xf_W 2 := ⟨xp_tw_in (List.mem_of_getElem? (i := 877) rfl) rfl, xp_tw_in (List.mem_of_getElem? (i := 83) (by decide +kernel)) rfl, fun h => absurd h (by decide +kernel), fun _ => xp_tw_in (List.mem_of_getElem? (i := 875) (by decide +kernel)) rfl, fun _ _ => xp_tw_in (List.mem_of_getElem? (i := 876) (by decide +kernel)) rfl⟩
set_option maxRecDepth 100000 in
theorem xw_3 : xf_W 3 := ⟨xp_tw_in (List.mem_of_getElem? (i := 881) rfl) rfl, xp_tw_in (List.mem_of_getElem? (i := 83) (by decide +kernel)) rfl, fun h => absurd h (by decide +kernel), fun _ => xp_tw_in (List.mem_of_getElem? (i := 879) (by decide +kernel)) rfl, fun _ _ => xp_tw_in (List.mem_of_getElem? (i := 880) (by decide +kernel)) rfl⟩
set_option maxRecDepth 100000 in
theorem xw_4 : xf_W 4 := ⟨xp_tw_in (List.mem_of_getElem? (i := 885) rfl) rfl, xp_tw_in (List.mem_of_getElem? (i := 83) (by decide +kernel)) rfl, fun h => absurd h (by decide +kernel), fun _ => xp_tw_in (List.mem_of_getElem? (i := 884) (by decide +kernel)) rfl, fun _ _ => xp_tw_in (List.mem_of_getElem? (i := 35) (by decide +kernel)) rfl⟩
set_option maxRecDepth 100000 in
theorem xw_5 : xf_W 5 := ⟨xp_tw_in (List.mem_of_getElem? (i := 889) rfl) rfl, xp_tw_in (List.mem_of_getElem? (i := 83) (by decide +kernel)) rfl, fun h => absurd h (by decide +kernel), fun _ => xp_tw_in (List.mem_of_getElem? (i := 888) (by decide +kernel)) rfl, fun _ _ => xp_tw_in (List.mem_of_getElem? (i := 36) (by decide +kernel)) rfl⟩
set_option maxRecDepth 100000 in
theorem xw_6 : xf_W 6 := ⟨xp_tw_in (List.mem_of_getElem? (i := 893) rfl) rfl, xp_tw_in (List.mem_of_getElem? (i := 83) (by decide +kernel)) rfl, fun h => absurd h (by decide +kernel), fun _ => xp_tw_in (List.mem_of_getElem? (i := 892) (by decide +kernel)) rfl, fun _ _ => xp_tw_in (List.mem_of_getElem? (i := 37) (by decide +kernel)) rfl⟩
set_option maxRecDepth 100000 in
theorem xw_7 : xf_W 7 := ⟨xp_tw_in (List.mem_of_getElem? (i := 897) rfl) rfl, xp_tw_in (List.mem_of_getElem? (i := 83) (by decide +kernel)) rfl, fun h => absurd h (by decide +kernel), fun _ => xp_tw_in (List.mem_of_getElem? (i := 896) (by decide +kernel)) rfl, fun _ _ => xp_tw_in (List.mem_of_getElem? (i := 38) (by decide +kernel)) rfl⟩
set_option maxRecDepth 100000 in
theorem xw_8 : xf_W 8 := ⟨xp_tw_in (List.mem_of_getElem? (i := 901) rfl) rfl, xp_tw_in (List.mem_of_getElem? (i := 83) (by decide +kernel)) rfl, fun h => absurd h (by decide +kernel), fun _ => xp_tw_in (List.mem_of_getElem? (i := 900) (by decide +kernel)) rfl, fun _ _ => xp_tw_in (List.mem_of_getElem? (i := 39) (by decide +kernel)) rfl⟩
set_option maxRecDepth 100000 in
theorem xw_9 : xf_W 9 := ⟨xp_tw_in (List.mem_of_getElem? (i := 904) rfl) rfl, xp_tw_in (List.mem_of_getElem? (i := 83) (by decide +kernel)) rfl, fun _ => xp_tw_in (List.mem_of_getElem? (i := 903) (by decide +kernel)) rfl, fun h => absurd h (by decide +kernel), fun h => absurd h (by decide +kernel)⟩
set_option maxRecDepth 100000 in
theorem xw_10 : xf_W 10 := ⟨xp_tw_in (List.mem_of_getElem? (i := 907) rfl) rfl, xp_tw_in (List.mem_of_getElem? (i := 83) (by decide +kernel)) rfl, fun _ => xp_tw_in (List.mem_of_getElem? (i := 906) (by decide +kernel)) rfl, fun h => absurd h (by decide +kernel), fun h => absurd h (by decide +kernel)⟩
set_option maxRecDepth 100000 in
theorem xw_11 : xf_W 11 := ⟨xp_tw_in (List.mem_of_getElem? (i := 911) rfl) rfl, xp_tw_in (List.mem_of_getElem? (i := 83) (by decide +kernel)) rfl, fun h => absurd h (by decide +kernel), fun _ => xp_tw_in (List.mem_of_getElem? (i := 910) (by decide +kernel)) rfl, fun _ _ => xp_tw_in (List.mem_of_getElem? (i := 40) (by decide +kernel)) rfl⟩
set_option maxRecDepth 100000 in
theorem xw_12 : xf_W 12 := ⟨xp_tw_in (List.mem_of_getElem? (i := 915) rfl) rfl, xp_tw_in (List.mem_of_getElem? (i := 83) (by decide +kernel)) rfl, fun h => absurd h (by decide +kernel), fun _ => xp_tw_in (List.mem_of_getElem? (i := 914) (by decide +kernel)) rfl, fun _ _ => xp_tw_in (List.mem_of_getElem? (i := 41) (by decide +kernel)) rfl⟩
set_option maxRecDepth 100000 in
theorem xw_13 : xf_W 13 := ⟨xp_tw_in (List.mem_of_getElem? (i := 918) rfl) rfl, xp_tw_in (List.mem_of_getElem? (i := 83) (by decide +kernel)) rfl, fun _ => xp_tw_in (List.mem_of_getElem? (i := 917) (by decide +kernel)) rfl, fun h => absurd h (by decide +kernel), fun h => absurd h (by decide +kernel)⟩
set_option maxRecDepth 100000 in
theorem xw_14 : xf_W 14 := ⟨xp_tw_in (List.mem_of_getElem? (i := 922) rfl) rfl, xp_tw_in (List.mem_of_getElem? (i := 83) (by decide +kernel)) rfl, fun h => absurd h (by decide +kernel), fun _ => xp_tw_in (List.mem_of_getElem? (i := 921) (by decide +kernel)) rfl, fun _ _ => xp_tw_in (List.mem_of_getElem? (i := 42) (by decide +kernel)) rfl⟩
set_option maxRecDepth 100000 in
theorem xw_15 : xf_W 15 := ⟨xp_tw_in (List.mem_of_getElem? (i := 926) rfl) rfl, xp_tw_in (List.mem_of_getElem? (i := 83) (by decide +kernel)) rfl, fun h => absurd h (by decide +kernel), fun _ => xp_tw_in (List.mem_of_getElem? (i := 925) (by decide +kernel)) rfl, fun _ _ => xp_tw_in (List.mem_of_getElem? (i := 43) (by decide +kernel)) rfl⟩
set_option maxRecDepth 100000 in
theorem xw_16 : xf_W 16 := ⟨xp_tw_in (List.mem_of_getElem? (i := 930) rfl) rfl, xp_tw_in (List.mem_of_getElem? (i := 83) (by decide +kernel)) rfl, fun h => absurd h (by decide +kernel), fun _ => xp_tw_in (List.mem_of_getElem? (i := 929) (by decide +kernel)) rfl, fun _ _ => xp_tw_in (List.mem_of_getElem? (i := 44) (by decide +kernel)) rfl⟩
set_option maxRecDepth 100000 in
theorem xw_17 : xf_W 17 := ⟨xp_tw_in (List.mem_of_getElem? (i := 934) rfl) rfl, xp_tw_in (List.mem_of_getElem? (i := 83) (by decide +kernel)) rfl, fun h => absurd h (by decide +kernel), fun _ => xp_tw_in (List.mem_of_getElem? (i := 933) (by decide +kernel)) rfl, fun _ _ => xp_tw_in (List.mem_of_getElem? (i := 45) (by decide +kernel)) rfl⟩
set_option maxRecDepth 100000 in
theorem xw_18 : xf_W 18 := ⟨xp_tw_in (List.mem_of_getElem? (i := 938) rfl) rfl, xp_tw_in (List.mem_of_getElem? (i := 83) (by decide +kernel)) rfl, fun h => absurd h (by decide +kernel), fun _ => xp_tw_in (List.mem_of_getElem? (i := 937) (by decide +kernel)) rfl, fun _ _ => xp_tw_in (List.mem_of_getElem? (i := 46) (by decide +kernel)) rfl⟩
set_option maxRecDepth 100000 in
theorem xw_19 : xf_W 19 := ⟨xp_tw_in (List.mem_of_getElem? (i := 942) rfl) rfl, xp_tw_in (List.mem_of_getElem? (i := 83) (by decide +kernel)) rfl, fun h => absurd h (by decide +kernel), fun _ => xp_tw_in (List.mem_of_getElem? (i := 941) (by decide +kernel)) rfl, fun _ _ => xp_tw_in (List.mem_of_getElem? (i := 47) (by decide +kernel)) rfl⟩
set_option maxRecDepth 100000 in
theorem xw_20 : xf_W 20 := ⟨xp_tw_in (List.mem_of_getElem? (i := 946) rfl) rfl, xp_tw_in (List.mem_of_getElem? (i := 83) (by decide +kernel)) rfl, fun h => absurd h (by decide +kernel), fun _ => xp_tw_in (List.mem_of_getElem? (i := 945) (by decide +kernel)) rfl, fun _ _ => xp_tw_in (List.mem_of_getElem? (i := 48) (by decide +kernel)) rfl⟩
set_option maxRecDepth 100000 in
theorem xw_21 : xf_W 21 := ⟨xp_tw_in (List.mem_of_getElem? (i := 950) rfl) rfl, xp_tw_in (List.mem_of_getElem? (i := 83) (by decide +kernel)) rfl, fun h => absurd h (by decide +kernel), fun _ => xp_tw_in (List.mem_of_getElem? (i := 949) (by decide +kernel)) rfl, fun _ _ => xp_tw_in (List.mem_of_getElem? (i := 49) (by decide +kernel)) rfl⟩
set_option maxRecDepth 100000 in
theorem xw_22 : xf_W 22 := ⟨xp_tw_in (List.mem_of_getElem? (i := 954) rfl) rfl, xp_tw_in (List.mem_of_getElem? (i := 83) (by decide +kernel)) rfl, fun h => absurd h (by decide +kernel), fun _ => xp_tw_in (List.mem_of_getElem? (i := 953) (by decide +kernel)) rfl, fun _ _ => xp_tw_in (List.mem_of_getElem? (i := 50) (by decide +kernel)) rfl⟩
set_option maxRecDepth 100000 in
theorem xw_23 : xf_W 23 := ⟨xp_tw_in (List.mem_of_getElem? (i := 958) rfl) rfl, xp_tw_in (List.mem_of_getElem? (i := 83) (by decide +kernel)) rfl, fun h => absurd h (by decide +kernel), fun _ => xp_tw_in (List.mem_of_getElem? (i := 957) (by decide +kernel)) rfl, fun _ _ => xp_tw_in (List.mem_of_getElem? (i := 51) (by decide +kernel)) rfl⟩
set_option maxRecDepth 100000 in
theorem xw_24 : xf_W 24 := ⟨xp_tw_in (List.mem_of_getElem? (i := 962) rfl) rfl, xp_tw_in (List.mem_of_getElem? (i := 83) (by decide +kernel)) rfl, fun h => absurd h (by decide +kernel), fun _ => xp_tw_in (List.mem_of_getElem? (i := 961) (by decide +kernel)) rfl, fun _ _ => xp_tw_in (List.mem_of_getElem? (i := 52) (by decide +kernel)) rfl⟩
set_option maxRecDepth 100000 in
theorem xw_25 : xf_W 25 := ⟨xp_tw_in (List.mem_of_getElem? (i := 966) rfl) rfl, xp_tw_in (List.mem_of_getElem? (i := 83) (by decide +kernel)) rfl, fun h => absurd h (by decide +kernel), fun _ => xp_tw_in (List.mem_of_getElem? (i := 964) (by decide +kernel)) rfl, fun _ _ => xp_tw_in (List.mem_of_getElem? (i := 965) (by decide +kernel)) rfl⟩
set_option maxRecDepth 100000 in
theorem xw_26 : xf_W 26 := ⟨xp_tw_in (List.mem_of_getElem? (i := 970) rfl) rfl, xp_tw_in (List.mem_of_getElem? (i := 83) (by decide +kernel)) rfl, fun h => absurd h (by decide +kernel), fun _ => xp_tw_in (List.mem_of_getElem? (i := 968) (by decide +kernel)) rfl, fun _ _ => xp_tw_in (List.mem_of_getElem? (i := 969) (by decide +kernel)) rfl⟩
set_option maxRecDepth 100000 in
theorem xw_27 : xf_W 27 := ⟨xp_tw_in (List.mem_of_getElem? (i := 974) rfl) rfl, xp_tw_in (List.mem_of_getElem? (i := 83) (by decide +kernel)) rfl, fun h => absurd h (by decide +kernel), fun _ => xp_tw_in (List.mem_of_getElem? (i := 973) (by decide +kernel)) rfl, fun _ _ => xp_tw_in (List.mem_of_getElem? (i := 53) (by decide +kernel)) rfl⟩
set_option maxRecDepth 100000 in
theorem xw_28 : xf_W 28 := ⟨xp_tw_in (List.mem_of_getElem? (i := 978) rfl) rfl, xp_tw_in (List.mem_of_getElem? (i := 83) (by decide +kernel)) rfl, fun h => absurd h (by decide +kernel), fun _ => xp_tw_in (List.mem_of_getElem? (i := 976) (by decide +kernel)) rfl, fun _ _ => xp_tw_in (List.mem_of_getElem? (i := 977) (by decide +kernel)) rfl⟩
set_option maxRecDepth 100000 in
theorem xw_29 : xf_W 29 := ⟨xp_tw_in (List.mem_of_getElem? (i := 982) rfl) rfl, xp_tw_in (List.mem_of_getElem? (i := 83) (by decide +kernel)) rfl, fun h => absurd h (by decide +kernel), fun _ => xp_tw_in (List.mem_of_getElem? (i := 981) (by decide +kernel)) rfl, fun _ _ => xp_tw_in (List.mem_of_getElem? (i := 54) (by decide +kernel)) rfl⟩
set_option maxRecDepth 100000 in
theorem xw_30 : xf_W 30 := ⟨xp_tw_in (List.mem_of_getElem? (i := 986) rfl) rfl, xp_tw_in (List.mem_of_getElem? (i := 83) (by decide +kernel)) rfl, fun h => absurd h (by decide +kernel), fun _ => xp_tw_in (List.mem_of_getElem? (i := 984) (by decide +kernel)) rfl, fun _ _ => xp_tw_in (List.mem_of_getElem? (i := 985) (by decide +kernel)) rfl⟩
set_option maxRecDepth 100000 in
theorem xw_31 : xf_W 31 := ⟨xp_tw_in (List.mem_of_getElem? (i := 990) rfl) rfl, xp_tw_in (List.mem_of_getElem? (i := 83) (by decide +kernel)) rfl, fun h => absurd h (by decide +kernel), fun _ => xp_tw_in (List.mem_of_getElem? (i := 989) (by decide +kernel)) rfl, fun _ _ => xp_tw_in (List.mem_of_getElem? (i := 55) (by decide +kernel)) rfl⟩
set_option maxRecDepth 100000 in
theorem xw_32 : xf_W 32 := ⟨xp_tw_in (List.mem_of_getElem? (i := 994) rfl) rfl, xp_tw_in (List.mem_of_getElem? (i := 83) (by decide +kernel)) rfl, fun h => absurd h (by decide +kernel), fun _ => xp_tw_in (List.mem_of_getElem? (i := 992) (by decide +kernel)) rfl, fun _ _ => xp_tw_in (List.mem_of_getElem? (i := 993) (by decide +kernel)) rfl⟩
set_option maxRecDepth 100000 in
theorem xw_33 : xf_W 33 := ⟨xp_tw_in (List.mem_of_getElem? (i := 998) rfl) rfl, xp_tw_in (List.mem_of_getElem? (i := 83) (by decide +kernel)) rfl, fun h => absurd h (by decide +kernel), fun _ => xp_tw_in (List.mem_of_getElem? (i := 996) (by decide +kernel)) rfl, fun _ _ => xp_tw_in (List.mem_of_getElem? (i := 997) (by decide +kernel)) rfl⟩
set_option maxRecDepth 100000 in
theorem xw_34 : xf_W 34 := ⟨xp_tw_in (List.mem_of_getElem? (i := 1002) rfl) rfl, xp_tw_in (List.mem_of_getElem? (i := 83) (by decide +kernel)) rfl, fun h => absurd h (by decide +kernel), fun _ => xp_tw_in (List.mem_of_getElem? (i := 1001) (by decide +kernel)) rfl, fun _ _ => xp_tw_in (List.mem_of_getElem? (i := 56) (by decide +kernel)) rfl⟩
set_option maxRecDepth 100000 in
theorem xw_35 : xf_W 35 := ⟨xp_tw_in (List.mem_of_getElem? (i := 1006) rfl) rfl, xp_tw_in (List.mem_of_getElem? (i := 83) (by decide +kernel)) rfl, fun h => absurd h (by decide +kernel), fun _ => xp_tw_in (List.mem_of_getElem? (i := 1004) (by decide +kernel)) rfl, fun _ _ => xp_tw_in (List.mem_of_getElem? (i := 1005) (by decide +kernel)) rfl⟩
set_option maxRecDepth 100000 in
theorem xw_36 : xf_W 36 := ⟨xp_tw_in (List.mem_of_getElem? (i := 1010) rfl) rfl, xp_tw_in (List.mem_of_getElem? (i := 83) (by decide +kernel)) rfl, fun h => absurd h (by decide +kernel), fun _ => xp_tw_in (List.mem_of_getElem? (i := 1008) (by decide +kernel)) rfl, fun _ _ => xp_tw_in (List.mem_of_getElem? (i := 1009) (by decide +kernel)) rfl⟩
set_option maxRecDepth 100000 in
theorem xw_37 : xf_W 37 := ⟨xp_tw_in (List.mem_of_getElem? (i := 1014) rfl) rfl, xp_tw_in (List.mem_of_getElem? (i := 83) (by decide +kernel)) rfl, fun h => absurd h (by decide +kernel), fun _ => xp_tw_in (List.mem_of_getElem? (i := 1012) (by decide +kernel)) rfl, fun _ _ => xp_tw_in (List.mem_of_getElem? (i := 1013) (by decide +kernel)) rfl⟩
set_option maxRecDepth 100000 in
theorem xw_38 : xf_W 38 := ⟨xp_tw_in (List.mem_of_getElem? (i := 1018) rfl) rfl, xp_tw_in (List.mem_of_getElem? (i := 83) (by decide +kernel)) rfl, fun h => absurd h (by decide +kernel), fun _ => xp_tw_in (List.mem_of_getElem? (i := 1017) (by decide +kernel)) rfl, fun _ _ => xp_tw_in (List.mem_of_getElem? (i := 57) (by decide +kernel)) rfl⟩
set_option maxRecDepth 100000 in
theorem xw_39 : xf_W 39 := ⟨xp_tw_in (List.mem_of_getElem? (i := 1022) rfl) rfl, xp_tw_in (List.mem_of_getElem? (i := 83) (by decide +kernel)) rfl, fun h => absurd h (by decide +kernel), fun _ => xp_tw_in (List.mem_of_getElem? (i := 1021) (by decide +kernel)) rfl, fun _ _ => xp_tw_in (List.mem_of_getElem? (i := 58) (by decide +kernel)) rfl⟩
set_option maxRecDepth 100000 in
theorem xw_40 : xf_W 40 := ⟨xp_tw_in (List.mem_of_getElem? (i := 1026) rfl) rfl, xp_tw_in (List.mem_of_getElem? (i := 83) (by decide +kernel)) rfl, fun h => absurd h (by decide +kernel), fun _ => xp_tw_in (List.mem_of_getElem? (i := 1025) (by decide +kernel)) rfl, fun _ _ => xp_tw_in (List.mem_of_getElem? (i := 59) (by decide +kernel)) rfl⟩
set_option maxRecDepth 100000 in
theorem xw_41 : xf_W 41 := ⟨xp_tw_in (List.mem_of_getElem? (i := 1030) rfl) rfl, xp_tw_in (List.mem_of_getElem? (i := 83) (by decide +kernel)) rfl, fun h => absurd h (by decide +kernel), fun _ => xp_tw_in (List.mem_of_getElem? (i := 1028) (by decide +kernel)) rfl, fun _ _ => xp_tw_in (List.mem_of_getElem? (i := 1029) (by decide +kernel)) rfl⟩
set_option maxRecDepth 100000 in
theorem xw_42 : xf_W 42 := ⟨xp_tw_in (List.mem_of_getElem? (i := 1033) rfl) rfl, xp_tw_in (List.mem_of_getElem? (i := 83) (by decide +kernel)) rfl, fun _ => xp_tw_in (List.mem_of_getElem? (i := 1032) (by decide +kernel)) rfl, fun h => absurd h (by decide +kernel), fun h => absurd h (by decide +kernel)⟩
set_option maxRecDepth 100000 in
theorem xw_43 : xf_W 43 := ⟨xp_tw_in (List.mem_of_getElem? (i := 1037) rfl) rfl, xp_tw_in (List.mem_of_getElem? (i := 83) (by decide +kernel)) rfl, fun h => absurd h (by decide +kernel), fun _ => xp_tw_in (List.mem_of_getElem? (i := 1036) (by decide +kernel)) rfl, fun _ _ => xp_tw_in (List.mem_of_getElem? (i := 60) (by decide +kernel)) rfl⟩
set_option maxRecDepth 100000 in
theorem xw_44 : xf_W 44 := ⟨xp_tw_in (List.mem_of_getElem? (i := 1041) rfl) rfl, xp_tw_in (List.mem_of_getElem? (i := 83) (by decide +kernel)) rfl, fun h => absurd h (by decide +kernel), fun _ => xp_tw_in (List.mem_of_getElem? (i := 1040) (by decide +kernel)) rfl, fun _ _ => xp_tw_in (List.mem_of_getElem? (i := 61) (by decide +kernel)) rfl⟩
set_option maxRecDepth 100000 in
theorem xw_45 : xf_W 45 := ⟨xp_tw_in (List.mem_of_getElem? (i := 1045) rfl) rfl, xp_tw_in (List.mem_of_getElem? (i := 83) (by decide +kernel)) rfl, fun h => absurd h (by decide +kernel), fun _ => xp_tw_in (List.mem_of_getElem? (i := 1044) (by decide +kernel)) rfl, fun _ _ => xp_tw_in (List.mem_of_getElem? (i := 62) (by decide +kernel)) rfl⟩
set_option maxRecDepth 100000 in
theorem xw_46 : xf_W 46 := ⟨xp_tw_in (List.mem_of_getElem? (i := 1049) rfl) rfl, xp_tw_in (List.mem_of_getElem? (i := 83) (by decide +kernel)) rfl, fun h => absurd h (by decide +kernel), fun _ => xp_tw_in (List.mem_of_getElem? (i := 1048) (by decide +kernel)) rfl, fun _ _ => xp_tw_in (List.mem_of_getElem? (i := 63) (by decide +kernel)) rfl⟩
set_option maxRecDepth 100000 in
theorem xw_47 : xf_W 47 := ⟨xp_tw_in (List.mem_of_getElem? (i := 1053) rfl) rfl, xp_tw_in (List.mem_of_getElem? (i := 83) (by decide +kernel)) rfl, fun h => absurd h (by decide +kernel), fun _ => xp_tw_in (List.mem_of_getElem? (i := 1052) (by decide +kernel)) rfl, fun _ _ => xp_tw_in (List.mem_of_getElem? (i := 64) (by decide +kernel)) rfl⟩
set_option maxRecDepth 100000 in
theorem xw_48 : xf_W 48 := ⟨xp_tw_in (List.mem_of_getElem? (i := 1057) rfl) rfl, xp_tw_in (List.mem_of_getElem? (i := 83) (by decide +kernel)) rfl, fun h => absurd h (by decide +kernel), fun _ => xp_tw_in (List.mem_of_getElem? (i := 1056) (by decide +kernel)) rfl, fun _ _ => xp_tw_in (List.mem_of_getElem? (i := 65) (by decide +kernel)) rfl⟩
set_option maxRecDepth 100000 in
theorem xw_49 : xf_W 49 := ⟨xp_tw_in (List.mem_of_getElem? (i := 1061) rfl) rfl, xp_tw_in (List.mem_of_getElem? (i := 83) (by decide +kernel)) rfl, fun h => absurd h (by decide +kernel), fun _ => xp_tw_in (List.mem_of_getElem? (i := 1060) (by decide +kernel)) rfl, fun _ _ => xp_tw_in (List.mem_of_getElem? (i := 66) (by decide +kernel)) rfl⟩
set_option maxRecDepth 100000 in
theorem xw_50 : xf_W 50 := ⟨xp_tw_in (List.mem_of_getElem? (i := 1065) rfl) rfl, xp_tw_in (List.mem_of_getElem? (i := 83) (by decide +kernel)) rfl, fun h => absurd h (by decide +kernel), fun _ => xp_tw_in (List.mem_of_getElem? (i := 1064) (by decide +kernel)) rfl, fun _ _ => xp_tw_in (List.mem_of_getElem? (i := 67) (by decide +kernel)) rfl⟩
set_option maxRecDepth 100000 in
theorem xw_51 : xf_W 51 := ⟨xp_tw_in (List.mem_of_getElem? (i := 1069) rfl) rfl, xp_tw_in (List.mem_of_getElem? (i := 83) (by decide +kernel)) rfl, fun h => absurd h (by decide +kernel), fun _ => xp_tw_in (List.mem_of_getElem? (i := 1068) (by decide +kernel)) rfl, fun _ _ => xp_tw_in (List.mem_of_getElem? (i := 68) (by decide +kernel)) rfl⟩
set_option maxRecDepth 100000 in
theorem xw_52 : xf_W 52 := ⟨xp_tw_in (List.mem_of_getElem? (i := 1073) rfl) rfl, xp_tw_in (List.mem_of_getElem? (i := 83) (by decide +kernel)) rfl, fun h => absurd h (by decide +kernel), fun _ => xp_tw_in (List.mem_of_getElem? (i := 1072) (by decide +kernel)) rfl, fun _ _ => xp_tw_in (List.mem_of_getElem? (i := 69) (by decide +kernel)) rfl⟩
set_option maxRecDepth 100000 in
theorem xw_53 : xf_W 53 := ⟨xp_tw_in (List.mem_of_getElem? (i := 1077) rfl) rfl, xp_tw_in (List.mem_of_getElem? (i := 83) (by decide +kernel)) rfl, fun h => absurd h (by decide +kernel), fun _ => xp_tw_in (List.mem_of_getElem? (i := 1076) (by decide +kernel)) rfl, fun _ _ => xp_tw_in (List.mem_of_getElem? (i := 70) (by decide +kernel)) rfl⟩
set_option maxRecDepth 100000 in
theorem xw_54 : xf_W 54 := ⟨xp_tw_in (List.mem_of_getElem? (i := 1081) rfl) rfl, xp_tw_in (List.mem_of_getElem? (i := 83) (by decide +kernel)) rfl, fun h => absurd h (by decide +kernel), fun _ => xp_tw_in (List.mem_of_getElem? (i := 1080) (by decide +kernel)) rfl, fun _ _ => xp_tw_in (List.mem_of_getElem? (i := 71) (by decide +kernel)) rfl⟩
set_option maxRecDepth 100000 in
theorem xw_55 : xf_W 55 := ⟨xp_tw_in (List.mem_of_getElem? (i := 1085) rfl) rfl, xp_tw_in (List.mem_of_getElem? (i := 83) (by decide +kernel)) rfl, fun h => absurd h (by decide +kernel), fun _ => xp_tw_in (List.mem_of_getElem? (i := 1084) (by decide +kernel)) rfl, fun _ _ => xp_tw_in (List.mem_of_getElem? (i := 72) (by decide +kernel)) rfl⟩
set_option maxRecDepth 100000 in
theorem xw_56 : xf_W 56 := ⟨xp_tw_in (List.mem_of_getElem? (i := 1089) rfl) rfl, xp_tw_in (List.mem_of_getElem? (i := 83) (by decide +kernel)) rfl, fun h => absurd h (by decide +kernel), fun _ => xp_tw_in (List.mem_of_getElem? (i := 1088) (by decide +kernel)) rfl, fun _ _ => xp_tw_in (List.mem_of_getElem? (i := 73) (by decide +kernel)) rfl⟩
set_option maxRecDepth 100000 in
theorem xw_57 : xf_W 57 := ⟨xp_tw_in (List.mem_of_getElem? (i := 1093) rfl) rfl, xp_tw_in (List.mem_of_getElem? (i := 83) (by decide +kernel)) rfl, fun h => absurd h (by decide +kernel), fun _ => xp_tw_in (List.mem_of_getElem? (i := 1091) (by decide +kernel)) rfl, fun _ _ => xp_tw_in (List.mem_of_getElem? (i := 1092) (by decide +kernel)) rfl⟩
set_option maxRecDepth 100000 in
theorem xw_58 : xf_W 58 := ⟨xp_tw_in (List.mem_of_getElem? (i := 1097) rfl) rfl, xp_tw_in (List.mem_of_getElem? (i := 83) (by decide +kernel)) rfl, fun h => absurd h (by decide +kernel), fun _ => xp_tw_in (List.mem_of_getElem? (i := 1095) (by decide +kernel)) rfl, fun _ _ => xp_tw_in (List.mem_of_getElem? (i := 1096) (by decide +kernel)) rfl⟩
set_option maxRecDepth 100000 in
theorem xw_59 : xf_W 59 := ⟨xp_tw_in (List.mem_of_getElem? (i := 1101) rfl) rfl, xp_tw_in (List.mem_of_getElem? (i := 83) (by decide +kernel)) rfl, fun h => absurd h (by decide +kernel), fun _ => xp_tw_in (List.mem_of_getElem? (i := 1099) (by decide +kernel)) rfl, fun _ _ => xp_tw_in (List.mem_of_getElem? (i := 1100) (by decide +kernel)) rfl⟩
set_option maxRecDepth 100000 in
theorem xw_60 : xf_W 60 := ⟨xp_tw_in (List.mem_of_getElem? (i := 1105) rfl) rfl, xp_tw_in (List.mem_of_getElem? (i := 83) (by decide +kernel)) rfl, fun h => absurd h (by decide +kernel), fun _ => xp_tw_in (List.mem_of_getElem? (i := 1104) (by decide +kernel)) rfl, fun _ _ => xp_tw_in (List.mem_of_getElem? (i := 74) (by decide +kernel)) rfl⟩
set_option maxRecDepth 100000 in
theorem xw_61 : xf_W 61 := ⟨xp_tw_in (List.mem_of_getElem? (i := 1109) rfl) rfl, xp_tw_in (List.mem_of_getElem? (i := 83) (by decide +kernel)) rfl, fun h => absurd h (by decide +kernel), fun _ => xp_tw_in (List.mem_of_getElem? (i := 1107) (by decide +kernel)) rfl, fun _ _ => xp_tw_in (List.mem_of_getElem? (i := 1108) (by decide +kernel)) rfl⟩
set_option maxRecDepth 100000 in
theorem xw_62 : xf_W 62 := ⟨xp_tw_in (List.mem_of_getElem? (i := 1113) rfl) rfl, xp_tw_in (List.mem_of_getElem? (i := 83) (by decide +kernel)) rfl, fun h => absurd h (by decide +kernel), fun _ => xp_tw_in (List.mem_of_getElem? (i := 1111) (by decide +kernel)) rfl, fun _ _ => xp_tw_in (List.mem_of_getElem? (i := 1112) (by decide +kernel)) rfl⟩
set_option maxRecDepth 100000 in
theorem xw_63 : xf_W 63 := ⟨xp_tw_in (List.mem_of_getElem? (i := 357) rfl) rfl, xp_tw_in (List.mem_of_getElem? (i := 84) (by decide +kernel)) rfl, fun h => absurd h (by decide +kernel), fun _ => xp_tw_in (List.mem_of_getElem? (i := 355) (by decide +kernel)) rfl, fun _ _ => xp_tw_in (List.mem_of_getElem? (i := 356) (by decide +kernel)) rfl⟩
set_option maxRecDepth 100000 in
theorem xw_64 : xf_W 64 := ⟨xp_tw_in (List.mem_of_getElem? (i := 361) rfl) rfl, xp_tw_in (List.mem_of_getElem? (i := 84) (by decide +kernel)) rfl, fun h => absurd h (by decide +kernel), fun _ => xp_tw_in (List.mem_of_getElem? (i := 359) (by decide +kernel)) rfl, fun _ _ => xp_tw_in (List.mem_of_getElem? (i := 360) (by decide +kernel)) rfl⟩
set_option maxRecDepth 100000 in
theorem xw_65 : xf_W 65 := ⟨xp_tw_in (List.mem_of_getElem? (i := 368) rfl) rfl, xp_tw_in (List.mem_of_getElem? (i := 84) (by decide +kernel)) rfl, fun h => absurd h (by decide +kernel), fun _ => xp_tw_in (List.mem_of_getElem? (i := 366) (by decide +kernel)) rfl, fun _ _ => xp_tw_in (List.mem_of_getElem? (i := 367) (by decide +kernel)) rfl⟩
set_option maxRecDepth 100000 in
theorem xw_66 : xf_W 66 := ⟨xp_tw_in (List.mem_of_getElem? (i := 372) rfl) rfl, xp_tw_in (List.mem_of_getElem? (i := 84) (by decide +kernel)) rfl, fun h => absurd h (by decide +kernel), fun _ => xp_tw_in (List.mem_of_getElem? (i := 370) (by decide +kernel)) rfl, fun _ _ => xp_tw_in (List.mem_of_getElem? (i := 371) (by decide +kernel)) rfl⟩
set_option maxRecDepth 100000 in
theorem xw_67 : xf_W 67 := ⟨xp_tw_in (List.mem_of_getElem? (i := 375) rfl) rfl, xp_tw_in (List.mem_of_getElem? (i := 85) (by decide +kernel)) rfl, fun _ => xp_tw_in (List.mem_of_getElem? (i := 374) (by decide +kernel)) rfl, fun h => absurd h (by decide +kernel), fun h => absurd h (by decide +kernel)⟩
set_option maxRecDepth 100000 in
theorem xw_68 : xf_W 68 := ⟨xp_tw_in (List.mem_of_getElem? (i := 378) rfl) rfl, xp_tw_in (List.mem_of_getElem? (i := 84) (by decide +kernel)) rfl, fun _ => xp_tw_in (List.mem_of_getElem? (i := 377) (by decide +kernel)) rfl, fun h => absurd h (by decide +kernel), fun h => absurd h (by decide +kernel)⟩
set_option maxRecDepth 100000 in
theorem xw_69 : xf_W 69 := ⟨xp_tw_in (List.mem_of_getElem? (i := 383) rfl) rfl, xp_tw_in (List.mem_of_getElem? (i := 86) (by decide +kernel)) rfl, fun _ => xp_tw_in (List.mem_of_getElem? (i := 382) (by decide +kernel)) rfl, fun h => absurd h (by decide +kernel), fun h => absurd h (by decide +kernel)⟩
set_option maxRecDepth 100000 in
theorem xw_70 : xf_W 70 := ⟨xp_tw_in (List.mem_of_getElem? (i := 386) rfl) rfl, xp_tw_in (List.mem_of_getElem? (i := 87) (by decide +kernel)) rfl, fun _ => xp_tw_in (List.mem_of_getElem? (i := 385) (by decide +kernel)) rfl, fun h => absurd h (by decide +kernel), fun h => absurd h (by decide +kernel)⟩
set_option maxRecDepth 100000 in
theorem xw_71 : xf_W 71 := ⟨xp_tw_in (List.mem_of_getElem? (i := 389) rfl) rfl, xp_tw_in (List.mem_of_getElem? (i := 87) (by decide +kernel)) rfl, fun _ => xp_tw_in (List.mem_of_getElem? (i := 388) (by decide +kernel)) rfl, fun h => absurd h (by decide +kernel), fun h => absurd h (by decide +kernel)⟩
set_option maxRecDepth 100000 in
theorem xw_72 : xf_W 72 := ⟨xp_tw_in (List.mem_of_getElem? (i := 392) rfl) rfl, xp_tw_in (List.mem_of_getElem? (i := 87) (by decide +kernel)) rfl, fun _ => xp_tw_in (List.mem_of_getElem? (i := 391) (by decide +kernel)) rfl, fun h => absurd h (by decide +kernel), fun h => absurd h (by decide +kernel)⟩
set_option maxRecDepth 100000 in
theorem xw_73 : xf_W 73 := ⟨xp_tw_in (List.mem_of_getElem? (i := 396) rfl) rfl, xp_tw_in (List.mem_of_getElem? (i := 87) (by decide +kernel)) rfl, fun _ => xp_tw_in (List.mem_of_getElem? (i := 395) (by decide +kernel)) rfl, fun h => absurd h (by decide +kernel), fun h => absurd h (by decide +kernel)⟩
set_option maxRecDepth 100000 in
theorem xw_74 : xf_W 74 := ⟨xp_tw_in (List.mem_of_getElem? (i := 734) rfl) rfl, xp_tw_in (List.mem_of_getElem? (i := 90) (by decide +kernel)) rfl, fun _ => xp_tw_in (List.mem_of_getElem? (i := 733) (by decide +kernel)) rfl, fun h => absurd h (by decide +kernel), fun h => absurd h (by decide +kernel)⟩
set_option maxRecDepth 100000 in
theorem xw_75 : xf_W 75 := ⟨xp_tw_in (List.mem_of_getElem? (i := 737) rfl) rfl, xp_tw_in (List.mem_of_getElem? (i := 91) (by decide +kernel)) rfl, fun _ => xp_tw_in (List.mem_of_getElem? (i := 736) (by decide +kernel)) rfl, fun h => absurd h (by decide +kernel), fun h => absurd h (by decide +kernel)⟩
set_option maxRecDepth 100000 in
theorem xw_76 : xf_W 76 := ⟨xp_tw_in (List.mem_of_getElem? (i := 96) rfl) rfl, xp_tw_in (List.mem_of_getElem? (i := 76) (by decide +kernel)) rfl, fun h => absurd h (by decide +kernel), fun _ => xp_tw_in (List.mem_of_getElem? (i := 95) (by decide +kernel)) rfl, fun _ h => absurd (by decide +kernel) h⟩
set_option maxRecDepth 100000 in
theorem xw_77 : xf_W 77 := ⟨xp_tw_in (List.mem_of_getElem? (i := 104) rfl) rfl, xp_tw_in (List.mem_of_getElem? (i := 77) (by decide +kernel)) rfl, fun h => absurd h (by decide +kernel), fun _ => xp_tw_in (List.mem_of_getElem? (i := 103) (by decide +kernel)) rfl, fun _ h => absurd (by decide +kernel) h⟩
set_option maxRecDepth 100000 in
theorem xw_78 : xf_W 78 := ⟨xp_tw_in (List.mem_of_getElem? (i := 118) rfl) rfl, xp_tw_in (List.mem_of_getElem? (i := 78) (by decide +kernel)) rfl, fun h => absurd h (by decide +kernel), fun _ => xp_tw_in (List.mem_of_getElem? (i := 117) (by decide +kernel)) rfl, fun _ h => absurd (by decide +kernel) h⟩
set_option maxRecDepth 100000 in
theorem xw_79 : xf_W 79 := ⟨xp_tw_in (List.mem_of_getElem? (i := 152) rfl) rfl, xp_tw_in (List.mem_of_getElem? (i := 79) (by decide +kernel)) rfl, fun h => absurd h (by decide +kernel), fun _ => xp_tw_in (List.mem_of_getElem? (i := 151) (by decide +kernel)) rfl, fun _ h => absurd (by decide +kernel) h⟩
set_option maxRecDepth 100000 in
theorem xw_80 : xf_W 80 := ⟨xp_tw_in (List.mem_of_getElem? (i := 183) rfl) rfl, xp_tw_in (List.mem_of_getElem? (i := 80) (by decide +kernel)) rfl, fun h => absurd h (by decide +kernel), fun _ => xp_tw_in (List.mem_of_getElem? (i := 182) (by decide +kernel)) rfl, fun _ h => absurd (by decide +kernel) h⟩
set_option maxRecDepth 100000 in
theorem xw_81 : xf_W 81 := ⟨xp_tw_in (List.mem_of_getElem? (i := 188) rfl) rfl, xp_tw_in (List.mem_of_getElem? (i := 80) (by decide +kernel)) rfl, fun h => absurd h (by decide +kernel), fun _ => xp_tw_in (List.mem_of_getElem? (i := 186) (by decide +kernel)) rfl, fun _ _ => xp_tw_in (List.mem_of_getElem? (i := 187) (by decide +kernel)) rfl⟩
set_option maxRecDepth 100000 in
theorem xw_82 : xf_W 82 := ⟨xp_tw_in (List.mem_of_getElem? (i := 206) rfl) rfl, xp_tw_in (List.mem_of_getElem? (i := 81) (by decide +kernel)) rfl, fun h => absurd h (by decide +kernel), fun _ => xp_tw_in (List.mem_of_getElem? (i := 205) (by decide +kernel)) rfl, fun _ h => absurd (by decide +kernel) h⟩
set_option maxRecDepth 100000 in
theorem xw_83 : xf_W 83 := ⟨xp_tw_in (List.mem_of_getElem? (i := 237) rfl) rfl, xp_tw_in (List.mem_of_getElem? (i := 82) (by decide +kernel)) rfl, fun h => absurd h (by decide +kernel), fun _ => xp_tw_in (List.mem_of_getElem? (i := 236) (by decide +kernel)) rfl, fun _ h => absurd (by decide +kernel) h⟩
set_option maxRecDepth 100000 in
theorem xw_84 : xf_W 84 := ⟨xp_tw_in (List.mem_of_getElem? (i := 272) rfl) rfl, xp_tw_in (List.mem_of_getElem? (i := 76) (by decide +kernel)) rfl, fun h => absurd h (by decide +kernel), fun _ => xp_tw_in (List.mem_of_getElem? (i := 270) (by decide +kernel)) rfl, fun _ _ => xp_tw_in (List.mem_of_getElem? (i := 271) (by decide +kernel)) rfl⟩
set_option maxRecDepth 100000 in
theorem xw_85 : xf_W 85 := ⟨xp_tw_in (List.mem_of_getElem? (i := 275) rfl) rfl, xp_tw_in (List.mem_of_getElem? (i := 76) (by decide +kernel)) rfl, fun _ => xp_tw_in (List.mem_of_getElem? (i := 274) (by decide +kernel)) rfl, fun h => absurd h (by decide +kernel), fun h => absurd h (by decide +kernel)⟩
set_option maxRecDepth 100000 in
theorem xw_86 : xf_W 86 := ⟨xp_tw_in (List.mem_of_getElem? (i := 279) rfl) rfl, xp_tw_in (List.mem_of_getElem? (i := 77) (by decide +kernel)) rfl, fun h => absurd h (by decide +kernel), fun _ => xp_tw_in (List.mem_of_getElem? (i := 277) (by decide +kernel)) rfl, fun _ _ => xp_tw_in (List.mem_of_getElem? (i := 278) (by decide +kernel)) rfl⟩
set_option maxRecDepth 100000 in
theorem xw_87 : xf_W 87 := ⟨xp_tw_in (List.mem_of_getElem? (i := 283) rfl) rfl, xp_tw_in (List.mem_of_getElem? (i := 77) (by decide +kernel)) rfl, fun h => absurd h (by decide +kernel), fun _ => xp_tw_in (List.mem_of_getElem? (i := 281) (by decide +kernel)) rfl, fun _ _ => xp_tw_in (List.mem_of_getElem? (i := 282) (by decide +kernel)) rfl⟩
set_option maxRecDepth 100000 in
theorem xw_88 : xf_W 88 := ⟨xp_tw_in (List.mem_of_getElem? (i := 287) rfl) rfl, xp_tw_in (List.mem_of_getElem? (i := 77) (by decide +kernel)) rfl, fun h => absurd h (by decide +kernel), fun _ => xp_tw_in (List.mem_of_getElem? (i := 285) (by decide +kernel)) rfl, fun _ _ => xp_tw_in (List.mem_of_getElem? (i := 286) (by decide +kernel)) rfl⟩
set_option maxRecDepth 100000 in
theorem xw_89 : xf_W 89 := ⟨xp_tw_in (List.mem_of_getElem? (i := 291) rfl) rfl, xp_tw_in (List.mem_of_getElem? (i := 76) (by decide +kernel)) rfl, fun h => absurd h (by decide +kernel), fun _ => xp_tw_in (List.mem_of_getElem? (i := 289) (by decide +kernel)) rfl, fun _ _ => xp_tw_in (List.mem_of_getElem? (i := 290) (by decide +kernel)) rfl⟩
set_option maxRecDepth 100000 in
theorem xw_90 : xf_W 90 := ⟨xp_tw_in (List.mem_of_getElem? (i := 295) rfl) rfl, xp_tw_in (List.mem_of_getElem? (i := 79) (by decide +kernel)) rfl, fun h => absurd h (by decide +kernel), fun _ => xp_tw_in (List.mem_of_getElem? (i := 293) (by decide +kernel)) rfl, fun _ _ => xp_tw_in (List.mem_of_getElem? (i := 294) (by decide +kernel)) rfl⟩
set_option maxRecDepth 100000 in
theorem xw_91 : xf_W 91 := ⟨xp_tw_in (List.mem_of_getElem? (i := 299) rfl) rfl, xp_tw_in (List.mem_of_getElem? (i := 79) (by decide +kernel)) rfl, fun h => absurd h (by decide +kernel), fun _ => xp_tw_in (List.mem_of_getElem? (i := 298) (by decide +kernel)) rfl, fun _ _ => xp_tw_in (List.mem_of_getElem? (i := 0) (by decide +kernel)) rfl⟩
set_option maxRecDepth 100000 in
theorem xw_92 : xf_W 92 := ⟨xp_tw_in (List.mem_of_getElem? (i := 303) rfl) rfl, xp_tw_in (List.mem_of_getElem? (i := 79) (by decide +kernel)) rfl, fun h => absurd h (by decide +kernel), fun _ => xp_tw_in (List.mem_of_getElem? (i := 302) (by decide +kernel)) rfl, fun _ _ => xp_tw_in (List.mem_of_getElem? (i := 1) (by decide +kernel)) rfl⟩
set_option maxRecDepth 100000 in
theorem xw_93 : xf_W 93 := ⟨xp_tw_in (List.mem_of_getElem? (i := 307) rfl) rfl, xp_tw_in (List.mem_of_getElem? (i := 79) (by decide +kernel)) rfl, fun h => absurd h (by decide +kernel), fun _ => xp_tw_in (List.mem_of_getElem? (i := 306) (by decide +kernel)) rfl, fun _ _ => xp_tw_in (List.mem_of_getElem? (i := 2) (by decide +kernel)) rfl⟩
set_option maxRecDepth 100000 in
theorem xw_94 : xf_W 94 := ⟨xp_tw_in (List.mem_of_getElem? (i := 311) rfl) rfl, xp_tw_in (List.mem_of_getElem? (i := 79) (by decide +kernel)) rfl, fun h => absurd h (by decide +kernel), fun _ => xp_tw_in (List.mem_of_getElem? (i := 310) (by decide +kernel)) rfl, fun _ _ => xp_tw_in (List.mem_of_getElem? (i := 3) (by decide +kernel)) rfl⟩
set_option maxRecDepth 100000 in
theorem xw_95 : xf_W 95 := ⟨xp_tw_in (List.mem_of_getElem? (i := 315) rfl) rfl, xp_tw_in (List.mem_of_getElem? (i := 79) (by decide +kernel)) rfl, fun h => absurd h (by decide +kernel), fun _ => xp_tw_in (List.mem_of_getElem? (i := 314) (by decide +kernel)) rfl, fun _ _ => xp_tw_in (List.mem_of_getElem? (i := 4) (by decide +kernel)) rfl⟩
set_option maxRecDepth 100000 in
theorem xw_96 : xf_W 96 := ⟨xp_tw_in (List.mem_of_getElem? (i := 319) rfl) rfl, xp_tw_in (List.mem_of_getElem? (i := 79) (by decide +kernel)) rfl, fun h => absurd h (by decide +kernel), fun _ => xp_tw_in (List.mem_of_getElem? (i := 318) (by decide +kernel)) rfl, fun _ _ => xp_tw_in (List.mem_of_getElem? (i := 5) (by decide +kernel)) rfl⟩
set_option maxRecDepth 100000 in
theorem xw_97 : xf_W 97 := ⟨xp_tw_in (List.mem_of_getElem? (i := 323) rfl) rfl, xp_tw_in (List.mem_of_getElem? (i := 79) (by decide +kernel)) rfl, fun h => absurd h (by decide +kernel), fun _ => xp_tw_in (List.mem_of_getElem? (i := 322) (by decide +kernel)) rfl, fun _ _ => xp_tw_in (List.mem_of_getElem? (i := 6) (by decide +kernel)) rfl⟩
set_option maxRecDepth 100000 in
theorem xw_98 : xf_W 98 := ⟨xp_tw_in (List.mem_of_getElem? (i := 327) rfl) rfl, xp_tw_in (List.mem_of_getElem? (i := 79) (by decide +kernel)) rfl, fun h => absurd h (by decide +kernel), fun _ => xp_tw_in (List.mem_of_getElem? (i := 326) (by decide +kernel)) rfl, fun _ _ => xp_tw_in (List.mem_of_getElem? (i := 7) (by decide +kernel)) rfl⟩
set_option maxRecDepth 100000 in
theorem xw_99 : xf_W 99 := ⟨xp_tw_in (List.mem_of_getElem? (i := 331) rfl) rfl, xp_tw_in (List.mem_of_getElem? (i := 77) (by decide +kernel)) rfl, fun h => absurd h (by decide +kernel), fun _ => xp_tw_in (List.mem_of_getElem? (i := 329) (by decide +kernel)) rfl, fun _ _ => xp_tw_in (List.mem_of_getElem? (i := 330) (by decide +kernel)) rfl⟩
set_option maxRecDepth 100000 in
theorem xw_100 : xf_W 100 := ⟨xp_tw_in (List.mem_of_getElem? (i := 334) rfl) rfl, xp_tw_in (List.mem_of_getElem? (i := 79) (by decide +kernel)) rfl, fun _ => xp_tw_in (List.mem_of_getElem? (i := 333) (by decide +kernel)) rfl, fun h => absurd h (by decide +kernel), fun h => absurd h (by decide +kernel)⟩
set_option maxRecDepth 100000 in
theorem xw_101 : xf_W 101 := ⟨xp_tw_in (List.mem_of_getElem? (i := 337) rfl) rfl, xp_tw_in (List.mem_of_getElem? (i := 79) (by decide +kernel)) rfl, fun _ => xp_tw_in (List.mem_of_getElem? (i := 336) (by decide +kernel)) rfl, fun h => absurd h (by decide +kernel), fun h => absurd h (by decide +kernel)⟩
set_option maxRecDepth 100000 in
theorem xw_102 : xf_W 102 := ⟨xp_tw_in (List.mem_of_getElem? (i := 341) rfl) rfl, xp_tw_in (List.mem_of_getElem? (i := 79) (by decide +kernel)) rfl, fun h => absurd h (by decide +kernel), fun _ => xp_tw_in (List.mem_of_getElem? (i := 340) (by decide +kernel)) rfl, fun _ _ => xp_tw_in (List.mem_of_getElem? (i := 8) (by decide +kernel)) rfl⟩
set_option maxRecDepth 100000 in
theorem xw_103 : xf_W 103 := ⟨xp_tw_in (List.mem_of_getElem? (i := 345) rfl) rfl, xp_tw_in (List.mem_of_getElem? (i := 79) (by decide +kernel)) rfl, fun h => absurd h (by decide +kernel), fun _ => xp_tw_in (List.mem_of_getElem? (i := 344) (by decide +kernel)) rfl, fun _ _ => xp_tw_in (List.mem_of_getElem? (i := 9) (by decide +kernel)) rfl⟩
set_option maxRecDepth 100000 in
theorem xw_104 : xf_W 104 := ⟨xp_tw_in (List.mem_of_getElem? (i := 348) rfl) rfl, xp_tw_in (List.mem_of_getElem? (i := 79) (by decide +kernel)) rfl, fun _ => xp_tw_in (List.mem_of_getElem? (i := 347) (by decide +kernel)) rfl, fun h => absurd h (by decide +kernel), fun h => absurd h (by decide +kernel)⟩
set_option maxRecDepth 100000 in
theorem xw_105 : xf_W 105 := ⟨xp_tw_in (List.mem_of_getElem? (i := 353) rfl) rfl, xp_tw_in (List.mem_of_getElem? (i := 77) (by decide +kernel)) rfl, fun h => absurd h (by decide +kernel), fun _ => xp_tw_in (List.mem_of_getElem? (i := 351) (by decide +kernel)) rfl, fun _ _ => xp_tw_in (List.mem_of_getElem? (i := 352) (by decide +kernel)) rfl⟩
set_option maxRecDepth 100000 in
theorem xw_106 : xf_W 106 := ⟨xp_tw_in (List.mem_of_getElem? (i := 406) rfl) rfl, xp_tw_in (List.mem_of_getElem? (i := 79) (by decide +kernel)) rfl, fun h => absurd h (by decide +kernel), fun _ => xp_tw_in (List.mem_of_getElem? (i := 405) (by decide +kernel)) rfl, fun _ _ => xp_tw_in (List.mem_of_getElem? (i := 10) (by decide +kernel)) rfl⟩
set_option maxRecDepth 100000 in
theorem xw_107 : xf_W 107 := ⟨xp_tw_in (List.mem_of_getElem? (i := 411) rfl) rfl, xp_tw_in (List.mem_of_getElem? (i := 79) (by decide +kernel)) rfl, fun h => absurd h (by decide +kernel), fun _ => xp_tw_in (List.mem_of_getElem? (i := 410) (by decide +kernel)) rfl, fun _ _ => xp_tw_in (List.mem_of_getElem? (i := 11) (by decide +kernel)) rfl⟩
set_option maxRecDepth 100000 in
theorem xw_108 : xf_W 108 := ⟨xp_tw_in (List.mem_of_getElem? (i := 417) rfl) rfl, xp_tw_in (List.mem_of_getElem? (i := 79) (by decide +kernel)) rfl, fun h => absurd h (by decide +kernel), fun _ => xp_tw_in (List.mem_of_getElem? (i := 416) (by decide +kernel)) rfl, fun _ _ => xp_tw_in (List.mem_of_getElem? (i := 12) (by decide +kernel)) rfl⟩
set_option maxRecDepth 100000 in
theorem xw_109 : xf_W 109 := ⟨xp_tw_in (List.mem_of_getElem? (i := 421) rfl) rfl, xp_tw_in (List.mem_of_getElem? (i := 79) (by decide +kernel)) rfl, fun h => absurd h (by decide +kernel), fun _ => xp_tw_in (List.mem_of_getElem? (i := 420) (by decide +kernel)) rfl, fun _ _ => xp_tw_in (List.mem_of_getElem? (i := 13) (by decide +kernel)) rfl⟩
set_option maxRecDepth 100000 in
theorem xw_110 : xf_W 110 := ⟨xp_tw_in (List.mem_of_getElem? (i := 425) rfl) rfl, xp_tw_in (List.mem_of_getElem? (i := 79) (by decide +kernel)) rfl, fun h => absurd h (by decide +kernel), fun _ => xp_tw_in (List.mem_of_getElem? (i := 424) (by decide +kernel)) rfl, fun _ _ => xp_tw_in (List.mem_of_getElem? (i := 14) (by decide +kernel)) rfl⟩
set_option maxRecDepth 100000 in
theorem xw_111 : xf_W 111 := ⟨xp_tw_in (List.mem_of_getElem? (i := 429) rfl) rfl, xp_tw_in (List.mem_of_getElem? (i := 79) (by decide +kernel)) rfl, fun h => absurd h (by decide +kernel), fun _ => xp_tw_in (List.mem_of_getElem? (i := 428) (by decide +kernel)) rfl, fun _ _ => xp_tw_in (List.mem_of_getElem? (i := 15) (by decide +kernel)) rfl⟩
set_option maxRecDepth 100000 in
theorem xw_112 : xf_W 112 := ⟨xp_tw_in (List.mem_of_getElem? (i := 433) rfl) rfl, xp_tw_in (List.mem_of_getElem? (i := 79) (by decide +kernel)) rfl, fun h => absurd h (by decide +kernel), fun _ => xp_tw_in (List.mem_of_getElem? (i := 432) (by decide +kernel)) rfl, fun _ _ => xp_tw_in (List.mem_of_getElem? (i := 16) (by decide +kernel)) rfl⟩
set_option maxRecDepth 100000 in
theorem xw_113 : xf_W 113 := ⟨xp_tw_in (List.mem_of_getElem? (i := 437) rfl) rfl, xp_tw_in (List.mem_of_getElem? (i := 78) (by decide +kernel)) rfl, fun h => absurd h (by decide +kernel), fun _ => xp_tw_in (List.mem_of_getElem? (i := 435) (by decide +kernel)) rfl, fun _ _ => xp_tw_in (List.mem_of_getElem? (i := 436) (by decide +kernel)) rfl⟩
set_option maxRecDepth 100000 in
theorem xw_114 : xf_W 114 := ⟨xp_tw_in (List.mem_of_getElem? (i := 441) rfl) rfl, xp_tw_in (List.mem_of_getElem? (i := 78) (by decide +kernel)) rfl, fun h => absurd h (by decide +kernel), fun _ => xp_tw_in (List.mem_of_getElem? (i := 440) (by decide +kernel)) rfl, fun _ _ => xp_tw_in (List.mem_of_getElem? (i := 17) (by decide +kernel)) rfl⟩
set_option maxRecDepth 100000 in
theorem xw_115 : xf_W 115 := ⟨xp_tw_in (List.mem_of_getElem? (i := 446) rfl) rfl, xp_tw_in (List.mem_of_getElem? (i := 78) (by decide +kernel)) rfl, fun h => absurd h (by decide +kernel), fun _ => xp_tw_in (List.mem_of_getElem? (i := 444) (by decide +kernel)) rfl, fun _ _ => xp_tw_in (List.mem_of_getElem? (i := 445) (by decide +kernel)) rfl⟩
set_option maxRecDepth 100000 in
theorem xw_116 : xf_W 116 := ⟨xp_tw_in (List.mem_of_getElem? (i := 450) rfl) rfl, xp_tw_in (List.mem_of_getElem? (i := 78) (by decide +kernel)) rfl, fun h => absurd h (by decide +kernel), fun _ => xp_tw_in (List.mem_of_getElem? (i := 448) (by decide +kernel)) rfl, fun _ _ => xp_tw_in (List.mem_of_getElem? (i := 449) (by decide +kernel)) rfl⟩
set_option maxRecDepth 100000 in
theorem xw_117 : xf_W 117 := ⟨xp_tw_in (List.mem_of_getElem? (i := 454) rfl) rfl, xp_tw_in (List.mem_of_getElem? (i := 78) (by decide +kernel)) rfl, fun h => absurd h (by decide +kernel), fun _ => xp_tw_in (List.mem_of_getElem? (i := 452) (by decide +kernel)) rfl, fun _ _ => xp_tw_in (List.mem_of_getElem? (i := 453) (by decide +kernel)) rfl⟩
set_option maxRecDepth 100000 in
theorem xw_118 : xf_W 118 := ⟨xp_tw_in (List.mem_of_getElem? (i := 458) rfl) rfl, xp_tw_in (List.mem_of_getElem? (i := 78) (by decide +kernel)) rfl, fun h => absurd h (by decide +kernel), fun _ => xp_tw_in (List.mem_of_getElem? (i := 457) (by decide +kernel)) rfl, fun _ _ => xp_tw_in (List.mem_of_getElem? (i := 18) (by decide +kernel)) rfl⟩
set_option maxRecDepth 100000 in
theorem xw_119 : xf_W 119 := ⟨xp_tw_in (List.mem_of_getElem? (i := 462) rfl) rfl, xp_tw_in (List.mem_of_getElem? (i := 79) (by decide +kernel)) rfl, fun h => absurd h (by decide +kernel), fun _ => xp_tw_in (List.mem_of_getElem? (i := 461) (by decide +kernel)) rfl, fun _ _ => xp_tw_in (List.mem_of_getElem? (i := 19) (by decide +kernel)) rfl⟩
set_option maxRecDepth 100000 in
theorem xw_120 : xf_W 120 := ⟨xp_tw_in (List.mem_of_getElem? (i := 466) rfl) rfl, xp_tw_in (List.mem_of_getElem? (i := 79) (by decide +kernel)) rfl, fun h => absurd h (by decide +kernel), fun _ => xp_tw_in (List.mem_of_getElem? (i := 465) (by decide +kernel)) rfl, fun _ _ => xp_tw_in (List.mem_of_getElem? (i := 20) (by decide +kernel)) rfl⟩
set_option maxRecDepth 100000 in
theorem xw_121 : xf_W 121 := ⟨xp_tw_in (List.mem_of_getElem? (i := 470) rfl) rfl, xp_tw_in (List.mem_of_getElem? (i := 78) (by decide +kernel)) rfl, fun h => absurd h (by decide +kernel), fun _ => xp_tw_in (List.mem_of_getElem? (i := 468) (by decide +kernel)) rfl, fun _ _ => xp_tw_in (List.mem_of_getElem? (i := 469) (by decide +kernel)) rfl⟩
set_option maxRecDepth 100000 in
theorem xw_122 : xf_W 122 := ⟨xp_tw_in (List.mem_of_getElem? (i := 481) rfl) rfl, xp_tw_in (List.mem_of_getElem? (i := 78) (by decide +kernel)) rfl, fun h => absurd h (by decide +kernel), fun _ => xp_tw_in (List.mem_of_getElem? (i := 479) (by decide +kernel)) rfl, fun _ _ => xp_tw_in (List.mem_of_getElem? (i := 480) (by decide +kernel)) rfl⟩
set_option maxRecDepth 100000 in
theorem xw_123 : xf_W 123 := ⟨xp_tw_in (List.mem_of_getElem? (i := 486) rfl) rfl, xp_tw_in (List.mem_of_getElem? (i := 79) (by decide +kernel)) rfl, fun h => absurd h (by decide +kernel), fun _ => xp_tw_in (List.mem_of_getElem? (i := 484) (by decide +kernel)) rfl, fun _ _ => xp_tw_in (List.mem_of_getElem? (i := 485) (by decide +kernel)) rfl⟩
set_option maxRecDepth 100000 in
theorem xw_124 : xf_W 124 := ⟨xp_tw_in (List.mem_of_getElem? (i := 490) rfl) rfl, xp_tw_in (List.mem_of_getElem? (i := 76) (by decide +kernel)) rfl, fun h => absurd h (by decide +kernel), fun _ => xp_tw_in (List.mem_of_getElem? (i := 488) (by decide +kernel)) rfl, fun _ _ => xp_tw_in (List.mem_of_getElem? (i := 489) (by decide +kernel)) rfl⟩
set_option maxRecDepth 100000 in
theorem xw_125 : xf_W 125 := ⟨xp_tw_in (List.mem_of_getElem? (i := 494) rfl) rfl, xp_tw_in (List.mem_of_getElem? (i := 79) (by decide +kernel)) rfl, fun h => absurd h (by decide +kernel), fun _ => xp_tw_in (List.mem_of_getElem? (i := 492) (by decide +kernel)) rfl, fun _ _ => xp_tw_in (List.mem_of_getElem? (i := 493) (by decide +kernel)) rfl⟩
set_option maxRecDepth 100000 in
theorem xw_126 : xf_W 126 := ⟨xp_tw_in (List.mem_of_getElem? (i := 498) rfl) rfl, xp_tw_in (List.mem_of_getElem? (i := 76) (by decide +kernel)) rfl, fun h => absurd h (by decide +kernel), fun _ => xp_tw_in (List.mem_of_getElem? (i := 496) (by decide +kernel)) rfl, fun _ _ => xp_tw_in (List.mem_of_getElem? (i := 497) (by decide +kernel)) rfl⟩
set_option maxRecDepth 100000 in
theorem xw_127 : xf_W 127 := ⟨xp_tw_in (List.mem_of_getElem? (i := 503) rfl) rfl, xp_tw_in (List.mem_of_getElem? (i := 78) (by decide +kernel)) rfl, fun h => absurd h (by decide +kernel), fun _ => xp_tw_in (List.mem_of_getElem? (i := 501) (by decide +kernel)) rfl, fun _ _ => xp_tw_in (List.mem_of_getElem? (i := 502) (by decide +kernel)) rfl⟩
set_option maxRecDepth 100000 in
theorem xw_128 : xf_W 128 := ⟨xp_tw_in (List.mem_of_getElem? (i := 507) rfl) rfl, xp_tw_in (List.mem_of_getElem? (i := 80) (by decide +kernel)) rfl, fun h => absurd h (by decide +kernel), fun _ => xp_tw_in (List.mem_of_getElem? (i := 505) (by decide +kernel)) rfl, fun _ _ => xp_tw_in (List.mem_of_getElem? (i := 506) (by decide +kernel)) rfl⟩
set_option maxRecDepth 100000 in
theorem xw_129 : xf_W 129 := ⟨xp_tw_in (List.mem_of_getElem? (i := 511) rfl) rfl, xp_tw_in (List.mem_of_getElem? (i := 80) (by decide +kernel)) rfl, fun h => absurd h (by decide +kernel), fun _ => xp_tw_in (List.mem_of_getElem? (i := 509) (by decide +kernel)) rfl, fun _ _ => xp_tw_in (List.mem_of_getElem? (i := 510) (by decide +kernel)) rfl⟩
set_option maxRecDepth 100000 in
theorem xw_130 : xf_W 130 := ⟨xp_tw_in (List.mem_of_getElem? (i := 515) rfl) rfl, xp_tw_in (List.mem_of_getElem? (i := 76) (by decide +kernel)) rfl, fun h => absurd h (by decide +kernel), fun _ => xp_tw_in (List.mem_of_getElem? (i := 513) (by decide +kernel)) rfl, fun _ _ => xp_tw_in (List.mem_of_getElem? (i := 514) (by decide +kernel)) rfl⟩
set_option maxRecDepth 100000 in
theorem xw_131 : xf_W 131 := ⟨xp_tw_in (List.mem_of_getElem? (i := 519) rfl) rfl, xp_tw_in (List.mem_of_getElem? (i := 78) (by decide +kernel)) rfl, fun h => absurd h (by decide +kernel), fun _ => xp_tw_in (List.mem_of_getElem? (i := 517) (by decide +kernel)) rfl, fun _ _ => xp_tw_in (List.mem_of_getElem? (i := 518) (by decide +kernel)) rfl⟩
set_option maxRecDepth 100000 in
theorem xw_132 : xf_W 132 := ⟨xp_tw_in (List.mem_of_getElem? (i := 523) rfl) rfl, xp_tw_in (List.mem_of_getElem? (i := 78) (by decide +kernel)) rfl, fun h => absurd h (by decide +kernel), fun _ => xp_tw_in (List.mem_of_getElem? (i := 521) (by decide +kernel)) rfl, fun _ _ => xp_tw_in (List.mem_of_getElem? (i := 522) (by decide +kernel)) rfl⟩
set_option maxRecDepth 100000 in
theorem xw_133 : xf_W 133 := ⟨xp_tw_in (List.mem_of_getElem? (i := 527) rfl) rfl, xp_tw_in (List.mem_of_getElem? (i := 78) (by decide +kernel)) rfl, fun h => absurd h (by decide +kernel), fun _ => xp_tw_in (List.mem_of_getElem? (i := 525) (by decide +kernel)) rfl, fun _ _ => xp_tw_in (List.mem_of_getElem? (i := 526) (by decide +kernel)) rfl⟩
set_option maxRecDepth 100000 in
theorem xw_134 : xf_W 134 := ⟨xp_tw_in (List.mem_of_getElem? (i := 531) rfl) rfl, xp_tw_in (List.mem_of_getElem? (i := 78) (by decide +kernel)) rfl, fun h => absurd h (by decide +kernel), fun _ => xp_tw_in (List.mem_of_getElem? (i := 529) (by decide +kernel)) rfl, fun _ _ => xp_tw_in (List.mem_of_getElem? (i := 530) (by decide +kernel)) rfl⟩
set_option maxRecDepth 100000 in
theorem xw_135 : xf_W 135 := ⟨xp_tw_in (List.mem_of_getElem? (i := 535) rfl) rfl, xp_tw_in (List.mem_of_getElem? (i := 76) (by decide +kernel)) rfl, fun h => absurd h (by decide +kernel), fun _ => xp_tw_in (List.mem_of_getElem? (i := 533) (by decide +kernel)) rfl, fun _ _ => xp_tw_in (List.mem_of_getElem? (i := 534) (by decide +kernel)) rfl⟩
set_option maxRecDepth 100000 in
theorem xw_136 : xf_W 136 := ⟨xp_tw_in (List.mem_of_getElem? (i := 539) rfl) rfl, xp_tw_in (List.mem_of_getElem? (i := 78) (by decide +kernel)) rfl, fun h => absurd h (by decide +kernel), fun _ => xp_tw_in (List.mem_of_getElem? (i := 537) (by decide +kernel)) rfl, fun _ _ => xp_tw_in (List.mem_of_getElem? (i := 538) (by decide +kernel)) rfl⟩
set_option maxRecDepth 100000 in
theorem xw_137 : xf_W 137 := ⟨xp_tw_in (List.mem_of_getElem? (i := 543) rfl) rfl, xp_tw_in (List.mem_of_getElem? (i := 78) (by decide +kernel)) rfl, fun h => absurd h (by decide +kernel), fun _ => xp_tw_in (List.mem_of_getElem? (i := 541) (by decide +kernel)) rfl, fun _ _ => xp_tw_in (List.mem_of_getElem? (i := 542) (by decide +kernel)) rfl⟩
set_option maxRecDepth 100000 in
theorem xw_138 : xf_W 138 := ⟨xp_tw_in (List.mem_of_getElem? (i := 548) rfl) rfl, xp_tw_in (List.mem_of_getElem? (i := 76) (by decide +kernel)) rfl, fun h => absurd h (by decide +kernel), fun _ => xp_tw_in (List.mem_of_getElem? (i := 546) (by decide +kernel)) rfl, fun _ _ => xp_tw_in (List.mem_of_getElem? (i := 547) (by decide +kernel)) rfl⟩
set_option maxRecDepth 100000 in
theorem xw_139 : xf_W 139 := ⟨xp_tw_in (List.mem_of_getElem? (i := 552) rfl) rfl, xp_tw_in (List.mem_of_getElem? (i := 78) (by decide +kernel)) rfl, fun h => absurd h (by decide +kernel), fun _ => xp_tw_in (List.mem_of_getElem? (i := 550) (by decide +kernel)) rfl, fun _ _ => xp_tw_in (List.mem_of_getElem? (i := 551) (by decide +kernel)) rfl⟩
set_option maxRecDepth 100000 in
theorem xw_140 : xf_W 140 := ⟨xp_tw_in (List.mem_of_getElem? (i := 557) rfl) rfl, xp_tw_in (List.mem_of_getElem? (i := 76) (by decide +kernel)) rfl, fun h => absurd h (by decide +kernel), fun _ => xp_tw_in (List.mem_of_getElem? (i := 555) (by decide +kernel)) rfl, fun _ _ => xp_tw_in (List.mem_of_getElem? (i := 556) (by decide +kernel)) rfl⟩
set_option maxRecDepth 100000 in
theorem xw_141 : xf_W 141 := ⟨xp_tw_in (List.mem_of_getElem? (i := 561) rfl) rfl, xp_tw_in (List.mem_of_getElem? (i := 78) (by decide +kernel)) rfl, fun h => absurd h (by decide +kernel), fun _ => xp_tw_in (List.mem_of_getElem? (i := 559) (by decide +kernel)) rfl, fun _ _ => xp_tw_in (List.mem_of_getElem? (i := 560) (by decide +kernel)) rfl⟩
set_option maxRecDepth 100000 in
theorem xw_142 : xf_W 142 := ⟨xp_tw_in (List.mem_of_getElem? (i := 565) rfl) rfl, xp_tw_in (List.mem_of_getElem? (i := 80) (by decide +kernel)) rfl, fun h => absurd h (by decide +kernel), fun _ => xp_tw_in (List.mem_of_getElem? (i := 563) (by decide +kernel)) rfl, fun _ _ => xp_tw_in (List.mem_of_getElem? (i := 564) (by decide +kernel)) rfl⟩
set_option maxRecDepth 100000 in
theorem xw_143 : xf_W 143 := ⟨xp_tw_in (List.mem_of_getElem? (i := 569) rfl) rfl, xp_tw_in (List.mem_of_getElem? (i := 76) (by decide +kernel)) rfl, fun h => absurd h (by decide +kernel), fun _ => xp_tw_in (List.mem_of_getElem? (i := 567) (by decide +kernel)) rfl, fun _ _ => xp_tw_in (List.mem_of_getElem? (i := 568) (by decide +kernel)) rfl⟩
set_option maxRecDepth 100000 in
theorem xw_144 : xf_W 144 := ⟨xp_tw_in (List.mem_of_getElem? (i := 573) rfl) rfl, xp_tw_in (List.mem_of_getElem? (i := 76) (by decide +kernel)) rfl, fun h => absurd h (by decide +kernel), fun _ => xp_tw_in (List.mem_of_getElem? (i := 571) (by decide +kernel)) rfl, fun _ _ => xp_tw_in (List.mem_of_getElem? (i := 572) (by decide +kernel)) rfl⟩
set_option maxRecDepth 100000 in
theorem xw_145 : xf_W 145 := ⟨xp_tw_in (List.mem_of_getElem? (i := 577) rfl) rfl, xp_tw_in (List.mem_of_getElem? (i := 80) (by decide +kernel)) rfl, fun h => absurd h (by decide +kernel), fun _ => xp_tw_in (List.mem_of_getElem? (i := 575) (by decide +kernel)) rfl, fun _ _ => xp_tw_in (List.mem_of_getElem? (i := 576) (by decide +kernel)) rfl⟩
set_option maxRecDepth 100000 in
theorem xw_146 : xf_W 146 := ⟨xp_tw_in (List.mem_of_getElem? (i := 581) rfl) rfl, xp_tw_in (List.mem_of_getElem? (i := 80) (by decide +kernel)) rfl, fun h => absurd h (by decide +kernel), fun _ => xp_tw_in (List.mem_of_getElem? (i := 579) (by decide +kernel)) rfl, fun _ _ => xp_tw_in (List.mem_of_getElem? (i := 580) (by decide +kernel)) rfl⟩
set_option maxRecDepth 100000 in
theorem xw_147 : xf_W 147 := ⟨xp_tw_in (List.mem_of_getElem? (i := 588) rfl) rfl, xp_tw_in (List.mem_of_getElem? (i := 76) (by decide +kernel)) rfl, fun h => absurd h (by decide +kernel), fun _ => xp_tw_in (List.mem_of_getElem? (i := 586) (by decide +kernel)) rfl, fun _ _ => xp_tw_in (List.mem_of_getElem? (i := 587) (by decide +kernel)) rfl⟩
set_option maxRecDepth 100000 in
theorem xw_148 : xf_W 148 := ⟨xp_tw_in (List.mem_of_getElem? (i := 593) rfl) rfl, xp_tw_in (List.mem_of_getElem? (i := 76) (by decide +kernel)) rfl, fun h => absurd h (by decide +kernel), fun _ => xp_tw_in (List.mem_of_getElem? (i := 591) (by decide +kernel)) rfl, fun _ _ => xp_tw_in (List.mem_of_getElem? (i := 592) (by decide +kernel)) rfl⟩
set_option maxRecDepth 100000 in
theorem xw_149 : xf_W 149 := ⟨xp_tw_in (List.mem_of_getElem? (i := 597) rfl) rfl, xp_tw_in (List.mem_of_getElem? (i := 81) (by decide +kernel)) rfl, fun h => absurd h (by decide +kernel), fun _ => xp_tw_in (List.mem_of_getElem? (i := 595) (by decide +kernel)) rfl, fun _ _ => xp_tw_in (List.mem_of_getElem? (i := 596) (by decide +kernel)) rfl⟩
set_option maxRecDepth 100000 in
theorem xw_150 : xf_W 150 := ⟨xp_tw_in (List.mem_of_getElem? (i := 601) rfl) rfl, xp_tw_in (List.mem_of_getElem? (i := 80) (by decide +kernel)) rfl, fun h => absurd h (by decide +kernel), fun _ => xp_tw_in (List.mem_of_getElem? (i := 599) (by decide +kernel)) rfl, fun _ _ => xp_tw_in (List.mem_of_getElem? (i := 600) (by decide +kernel)) rfl⟩
set_option maxRecDepth 100000 in
theorem xw_151 : xf_W 151 := ⟨xp_tw_in (List.mem_of_getElem? (i := 608) rfl) rfl, xp_tw_in (List.mem_of_getElem? (i := 81) (by decide +kernel)) rfl, fun h => absurd h (by decide +kernel), fun _ => xp_tw_in (List.mem_of_getElem? (i := 606) (by decide +kernel)) rfl, fun _ _ => xp_tw_in (List.mem_of_getElem? (i := 607) (by decide +kernel)) rfl⟩
set_option maxRecDepth 100000 in
theorem xw_152 : xf_W 152 := ⟨xp_tw_in (List.mem_of_getElem? (i := 612) rfl) rfl, xp_tw_in (List.mem_of_getElem? (i := 81) (by decide +kernel)) rfl, fun h => absurd h (by decide +kernel), fun _ => xp_tw_in (List.mem_of_getElem? (i := 611) (by decide +kernel)) rfl, fun _ _ => xp_tw_in (List.mem_of_getElem? (i := 21) (by decide +kernel)) rfl⟩
set_option maxRecDepth 100000 in
theorem xw_153 : xf_W 153 := ⟨xp_tw_in (List.mem_of_getElem? (i := 616) rfl) rfl, xp_tw_in (List.mem_of_getElem? (i := 81) (by decide +kernel)) rfl, fun h => absurd h (by decide +kernel), fun _ => xp_tw_in (List.mem_of_getElem? (i := 615) (by decide +kernel)) rfl, fun _ _ => xp_tw_in (List.mem_of_getElem? (i := 22) (by decide +kernel)) rfl⟩
set_option maxRecDepth 100000 in
theorem xw_154 : xf_W 154 := ⟨xp_tw_in (List.mem_of_getElem? (i := 622) rfl) rfl, xp_tw_in (List.mem_of_getElem? (i := 81) (by decide +kernel)) rfl, fun h => absurd h (by decide +kernel), fun _ => xp_tw_in (List.mem_of_getElem? (i := 621) (by decide +kernel)) rfl, fun _ _ => xp_tw_in (List.mem_of_getElem? (i := 23) (by decide +kernel)) rfl⟩
set_option maxRecDepth 100000 in
theorem xw_155 : xf_W 155 := ⟨xp_tw_in (List.mem_of_getElem? (i := 629) rfl) rfl, xp_tw_in (List.mem_of_getElem? (i := 81) (by decide +kernel)) rfl, fun h => absurd h (by decide +kernel), fun _ => xp_tw_in (List.mem_of_getElem? (i := 628) (by decide +kernel)) rfl, fun _ _ => xp_tw_in (List.mem_of_getElem? (i := 24) (by decide +kernel)) rfl⟩
set_option maxRecDepth 100000 in
theorem xw_156 : xf_W 156 := ⟨xp_tw_in (List.mem_of_getElem? (i := 637) rfl) rfl, xp_tw_in (List.mem_of_getElem? (i := 81) (by decide +kernel)) rfl, fun h => absurd h (by decide +kernel), fun _ => xp_tw_in (List.mem_of_getElem? (i := 636) (by decide +kernel)) rfl, fun _ _ => xp_tw_in (List.mem_of_getElem? (i := 25) (by decide +kernel)) rfl⟩
set_option maxRecDepth 100000 in
theorem xw_157 : xf_W 157 := ⟨xp_tw_in (List.mem_of_getElem? (i := 641) rfl) rfl, xp_tw_in (List.mem_of_getElem? (i := 81) (by decide +kernel)) rfl, fun h => absurd h (by decide +kernel), fun _ => xp_tw_in (List.mem_of_getElem? (i := 640) (by decide +kernel)) rfl, fun _ _ => xp_tw_in (List.mem_of_getElem? (i := 26) (by decide +kernel)) rfl⟩
set_option maxRecDepth 100000 in
theorem xw_158 : xf_W 158 := ⟨xp_tw_in (List.mem_of_getElem? (i := 645) rfl) rfl, xp_tw_in (List.mem_of_getElem? (i := 80) (by decide +kernel)) rfl, fun h => absurd h (by decide +kernel), fun _ => xp_tw_in (List.mem_of_getElem? (i := 643) (by decide +kernel)) rfl, fun _ _ => xp_tw_in (List.mem_of_getElem? (i := 644) (by decide +kernel)) rfl⟩
set_option maxRecDepth 100000 in
theorem xw_159 : xf_W 159 := ⟨xp_tw_in (List.mem_of_getElem? (i := 649) rfl) rfl, xp_tw_in (List.mem_of_getElem? (i := 81) (by decide +kernel)) rfl, fun h => absurd h (by decide +kernel), fun _ => xp_tw_in (List.mem_of_getElem? (i := 648) (by decide +kernel)) rfl, fun _ _ => xp_tw_in (List.mem_of_getElem? (i := 27) (by decide +kernel)) rfl⟩
set_option maxRecDepth 100000 in
theorem xw_160 : xf_W 160 := ⟨xp_tw_in (List.mem_of_getElem? (i := 653) rfl) rfl, xp_tw_in (List.mem_of_getElem? (i := 81) (by decide +kernel)) rfl, fun h => absurd h (by decide +kernel), fun _ => xp_tw_in (List.mem_of_getElem? (i := 652) (by decide +kernel)) rfl, fun _ _ => xp_tw_in (List.mem_of_getElem? (i := 28) (by decide +kernel)) rfl⟩
set_option maxRecDepth 100000 in
theorem xw_161 : xf_W 161 := ⟨xp_tw_in (List.mem_of_getElem? (i := 658) rfl) rfl, xp_tw_in (List.mem_of_getElem? (i := 81) (by decide +kernel)) rfl, fun h => absurd h (by decide +kernel), fun _ => xp_tw_in (List.mem_of_getElem? (i := 657) (by decide +kernel)) rfl, fun _ _ => xp_tw_in (List.mem_of_getElem? (i := 29) (by decide +kernel)) rfl⟩
set_option maxRecDepth 100000 in
theorem xw_162 : xf_W 162 := ⟨xp_tw_in (List.mem_of_getElem? (i := 662) rfl) rfl, xp_tw_in (List.mem_of_getElem? (i := 80) (by decide +kernel)) rfl, fun h => absurd h (by decide +kernel), fun _ => xp_tw_in (List.mem_of_getElem? (i := 660) (by decide +kernel)) rfl, fun _ _ => xp_tw_in (List.mem_of_getElem? (i := 661) (by decide +kernel)) rfl⟩
set_option maxRecDepth 100000 in
theorem xw_163 : xf_W 163 := ⟨xp_tw_in (List.mem_of_getElem? (i := 666) rfl) rfl, xp_tw_in (List.mem_of_getElem? (i := 80) (by decide +kernel)) rfl, fun h => absurd h (by decide +kernel), fun _ => xp_tw_in (List.mem_of_getElem? (i := 664) (by decide +kernel)) rfl, fun _ _ => xp_tw_in (List.mem_of_getElem? (i := 665) (by decide +kernel)) rfl⟩
set_option maxRecDepth 100000 in
theorem xw_164 : xf_W 164 := ⟨xp_tw_in (List.mem_of_getElem? (i := 670) rfl) rfl, xp_tw_in (List.mem_of_getElem? (i := 80) (by decide +kernel)) rfl, fun h => absurd h (by decide +kernel), fun _ => xp_tw_in (List.mem_of_getElem? (i := 669) (by decide +kernel)) rfl, fun _ _ => xp_tw_in (List.mem_of_getElem? (i := 30) (by decide +kernel)) rfl⟩
set_option maxRecDepth 100000 in
theorem xw_165 : xf_W 165 := ⟨xp_tw_in (List.mem_of_getElem? (i := 674) rfl) rfl, xp_tw_in (List.mem_of_getElem? (i := 80) (by decide +kernel)) rfl, fun h => absurd h (by decide +kernel), fun _ => xp_tw_in (List.mem_of_getElem? (i := 673) (by decide +kernel)) rfl, fun _ _ => xp_tw_in (List.mem_of_getElem? (i := 31) (by decide +kernel)) rfl⟩
set_option maxRecDepth 100000 in
theorem xw_166 : xf_W 166 := ⟨xp_tw_in (List.mem_of_getElem? (i := 679) rfl) rfl, xp_tw_in (List.mem_of_getElem? (i := 81) (by decide +kernel)) rfl, fun h => absurd h (by decide +kernel), fun _ => xp_tw_in (List.mem_of_getElem? (i := 677) (by decide +kernel)) rfl, fun _ _ => xp_tw_in (List.mem_of_getElem? (i := 678) (by decide +kernel)) rfl⟩
set_option maxRecDepth 100000 in
theorem xw_167 : xf_W 167 := ⟨xp_tw_in (List.mem_of_getElem? (i := 683) rfl) rfl, xp_tw_in (List.mem_of_getElem? (i := 76) (by decide +kernel)) rfl, fun h => absurd h (by decide +kernel), fun _ => xp_tw_in (List.mem_of_getElem? (i := 681) (by decide +kernel)) rfl, fun _ _ => xp_tw_in (List.mem_of_getElem? (i := 682) (by decide +kernel)) rfl⟩
set_option maxRecDepth 100000 in
theorem xw_168 : xf_W 168 := ⟨xp_tw_in (List.mem_of_getElem? (i := 687) rfl) rfl, xp_tw_in (List.mem_of_getElem? (i := 76) (by decide +kernel)) rfl, fun h => absurd h (by decide +kernel), fun _ => xp_tw_in (List.mem_of_getElem? (i := 685) (by decide +kernel)) rfl, fun _ _ => xp_tw_in (List.mem_of_getElem? (i := 686) (by decide +kernel)) rfl⟩
set_option maxRecDepth 100000 in
theorem xw_169 : xf_W 169 := ⟨xp_tw_in (List.mem_of_getElem? (i := 691) rfl) rfl, xp_tw_in (List.mem_of_getElem? (i := 81) (by decide +kernel)) rfl, fun h => absurd h (by decide +kernel), fun _ => xp_tw_in (List.mem_of_getElem? (i := 689) (by decide +kernel)) rfl, fun _ _ => xp_tw_in (List.mem_of_getElem? (i := 690) (by decide +kernel)) rfl⟩
set_option maxRecDepth 100000 in
theorem xw_170 : xf_W 170 := ⟨xp_tw_in (List.mem_of_getElem? (i := 695) rfl) rfl, xp_tw_in (List.mem_of_getElem? (i := 76) (by decide +kernel)) rfl, fun h => absurd h (by decide +kernel), fun _ => xp_tw_in (List.mem_of_getElem? (i := 693) (by decide +kernel)) rfl, fun _ _ => xp_tw_in (List.mem_of_getElem? (i := 694) (by decide +kernel)) rfl⟩
set_option maxRecDepth 100000 in
theorem xw_171 : xf_W 171 := ⟨xp_tw_in (List.mem_of_getElem? (i := 699) rfl) rfl, xp_tw_in (List.mem_of_getElem? (i := 82) (by decide +kernel)) rfl, fun h => absurd h (by decide +kernel), fun _ => xp_tw_in (List.mem_of_getElem? (i := 697) (by decide +kernel)) rfl, fun _ _ => xp_tw_in (List.mem_of_getElem? (i := 698) (by decide +kernel)) rfl⟩
set_option maxRecDepth 100000 in
theorem xw_172 : xf_W 172 := ⟨xp_tw_in (List.mem_of_getElem? (i := 703) rfl) rfl, xp_tw_in (List.mem_of_getElem? (i := 82) (by decide +kernel)) rfl, fun h => absurd h (by decide +kernel), fun _ => xp_tw_in (List.mem_of_getElem? (i := 702) (by decide +kernel)) rfl, fun _ _ => xp_tw_in (List.mem_of_getElem? (i := 32) (by decide +kernel)) rfl⟩
set_option maxRecDepth 100000 in
theorem xw_173 : xf_W 173 := ⟨xp_tw_in (List.mem_of_getElem? (i := 708) rfl) rfl, xp_tw_in (List.mem_of_getElem? (i := 82) (by decide +kernel)) rfl, fun h => absurd h (by decide +kernel), fun _ => xp_tw_in (List.mem_of_getElem? (i := 707) (by decide +kernel)) rfl, fun _ _ => xp_tw_in (List.mem_of_getElem? (i := 33) (by decide +kernel)) rfl⟩
set_option maxRecDepth 100000 in
theorem xw_174 : xf_W 174 := ⟨xp_tw_in (List.mem_of_getElem? (i := 714) rfl) rfl, xp_tw_in (List.mem_of_getElem? (i := 82) (by decide +kernel)) rfl, fun _ => xp_tw_in (List.mem_of_getElem? (i := 713) (by decide +kernel)) rfl, fun h => absurd h (by decide +kernel), fun h => absurd h (by decide +kernel)⟩
set_option maxRecDepth 100000 in
theorem xw_175 : xf_W 175 := ⟨xp_tw_in (List.mem_of_getElem? (i := 720) rfl) rfl, xp_tw_in (List.mem_of_getElem? (i := 82) (by decide +kernel)) rfl, fun h => absurd h (by decide +kernel), fun _ => xp_tw_in (List.mem_of_getElem? (i := 719) (by decide +kernel)) rfl, fun _ _ => xp_tw_in (List.mem_of_getElem? (i := 34) (by decide +kernel)) rfl⟩
set_option maxRecDepth 100000 in
theorem xw_176 : xf_W 176 := ⟨xp_tw_in (List.mem_of_getElem? (i := 725) rfl) rfl, xp_tw_in (List.mem_of_getElem? (i := 76) (by decide +kernel)) rfl, fun h => absurd h (by decide +kernel), fun _ => xp_tw_in (List.mem_of_getElem? (i := 723) (by decide +kernel)) rfl, fun _ _ => xp_tw_in (List.mem_of_getElem? (i := 724) (by decide +kernel)) rfl⟩
set_option maxRecDepth 100000 in
theorem xw_177 : xf_W 177 := ⟨xp_tw_in (List.mem_of_getElem? (i := 729) rfl) rfl, xp_tw_in (List.mem_of_getElem? (i := 82) (by decide +kernel)) rfl, fun h => absurd h (by decide +kernel), fun _ => xp_tw_in (List.mem_of_getElem? (i := 727) (by decide +kernel)) rfl, fun _ _ => xp_tw_in (List.mem_of_getElem? (i := 728) (by decide +kernel)) rfl⟩
set_option maxRecDepth 100000 in
theorem xw_178 : xf_W 178 := ⟨xp_tw_in (List.mem_of_getElem? (i := 742) rfl) rfl, xp_tw_in (List.mem_of_getElem? (i := 76) (by decide +kernel)) rfl, fun h => absurd h (by decide +kernel), fun _ => xp_tw_in (List.mem_of_getElem? (i := 740) (by decide +kernel)) rfl, fun _ _ => xp_tw_in (List.mem_of_getElem? (i := 741) (by decide +kernel)) rfl⟩
theorem xwb_1 : ∀ k, k < 26 → xf_W (1 + k) := fun k h => by
  match k, h with
  | 0, _ => exact xw_1
  | 1, _ => exact xw_2
  | 2, _ => exact xw_3
  | 3, _ => exact xw_4
  | 4, _ => exact xw_5
  | 5, _ => exact xw_6
  | 6, _ => exact xw_7
  | 7, _ => exact xw_8
  | 8, _ => exact xw_9
  | 9, _ => exact xw_10
  | 10, _ => exact xw_11
  | 11, _ => exact xw_12
  | 12, _ => exact xw_13
  | 13, _ => exact xw_14
  | 14, _ => exact xw_15
  | 15, _ => exact xw_16
  | 16, _ => exact xw_17
  | 17, _ => exact xw_18
  | 18, _ => exact xw_19
  | 19, _ => exact xw_20
  | 20, _ => exact xw_21
  | 21, _ => exact xw_22
  | 22, _ => exact xw_23
  | 23, _ => exact xw_24
  | 24, _ => exact xw_25
  | 25, _ => exact xw_26
  | j + 26, h => exact absurd h (by omega)
theorem xwb_27 : ∀ k, k < 26 → xf_W (27 + k) := fun k h => by
  match k, h with
  | 0, _ => exact xw_27
  | 1, _ => exact xw_28
  | 2, _ => exact xw_29
  | 3, _ => exact xw_30
  | 4, _ => exact xw_31
  | 5, _ => exact xw_32
  | 6, _ => exact xw_33
  | 7, _ => exact xw_34
  | 8, _ => exact xw_35
  | 9, _ => exact xw_36
  | 10, _ => exact xw_37
  | 11, _ => exact xw_38
  | 12, _ => exact xw_39
  | 13, _ => exact xw_40
  | 14, _ => exact xw_41
  | 15, _ => exact xw_42
  | 16, _ => exact xw_43
  | 17, _ => exact xw_44
  | 18, _ => exact xw_45
  | 19, _ => exact xw_46
  | 20, _ => exact xw_47
  | 21, _ => exact xw_48
  | 22, _ => exact xw_49
  | 23, _ => exact xw_50
  | 24, _ => exact xw_51
  | 25, _ => exact xw_52
  | j + 26, h => exact absurd h (by omega)
theorem xwb_53 : ∀ k, k < 26 → xf_W (53 + k) := fun k h => by
  match k, h with
  | 0, _ => exact xw_53
  | 1, _ => exact xw_54
  | 2, _ => exact xw_55
  | 3, _ => exact xw_56
  | 4, _ => exact xw_57
  | 5, _ => exact xw_58
  | 6, _ => exact xw_59
  | 7, _ => exact xw_60
  | 8, _ => exact xw_61
  | 9, _ => exact xw_62
  | 10, _ => exact xw_63
  | 11, _ => exact xw_64
  | 12, _ => exact xw_65
  | 13, _ => exact xw_66
  | 14, _ => exact xw_67
  | 15, _ => exact xw_68
  | 16, _ => exact xw_69
  | 17, _ => exact xw_70
  | 18, _ => exact xw_71
  | 19, _ => exact xw_72
  | 20, _ => exact xw_73
  | 21, _ => exact xw_74
  | 22, _ => exact xw_75
  | 23, _ => exact xw_76
  | 24, _ => exact xw_77
  | 25, _ => exact xw_78
  | j + 26, h => exact absurd h (by omega)
theorem xwb_79 : ∀ k, k < 26 → xf_W (79 + k) := fun k h => by
  match k, h with
  | 0, _ => exact xw_79
  | 1, _ => exact xw_80
  | 2, _ => exact xw_81
  | 3, _ => exact xw_82
  | 4, _ => exact xw_83
  | 5, _ => exact xw_84
  | 6, _ => exact xw_85
  | 7, _ => exact xw_86
  | 8, _ => exact xw_87
  | 9, _ => exact xw_88
  | 10, _ => exact xw_89
  | 11, _ => exact xw_90
  | 12, _ => exact xw_91
  | 13, _ => exact xw_92
  | 14, _ => exact xw_93
  | 15, _ => exact xw_94
  | 16, _ => exact xw_95
  | 17, _ => exact xw_96
  | 18, _ => exact xw_97
  | 19, _ => exact xw_98
  | 20, _ => exact xw_99
  | 21, _ => exact xw_100
  | 22, _ => exact xw_101
  | 23, _ => exact xw_102
  | 24, _ => exact xw_103
  | 25, _ => exact xw_104
  | j + 26, h => exact absurd h (by omega)
theorem xwb_105 : ∀ k, k < 26 → xf_W (105 + k) := fun k h => by
  match k, h with
  | 0, _ => exact xw_105
  | 1, _ => exact xw_106
  | 2, _ => exact xw_107
  | 3, _ => exact xw_108
  | 4, _ => exact xw_109
  | 5, _ => exact xw_110
  | 6, _ => exact xw_111
  | 7, _ => exact xw_112
  | 8, _ => exact xw_113
  | 9, _ => exact xw_114
  | 10, _ => exact xw_115
  | 11, _ => exact xw_116
  | 12, _ => exact xw_117
  | 13, _ => exact xw_118
  | 14, _ => exact xw_119
  | 15, _ => exact xw_120
  | 16, _ => exact xw_121
  | 17, _ => exact xw_122
  | 18, _ => exact xw_123
  | 19, _ => exact xw_124
  | 20, _ => exact xw_125
  | 21, _ => exact xw_126
  | 22, _ => exact xw_127
  | 23, _ => exact xw_128
  | 24, _ => exact xw_129
  | 25, _ => exact xw_130
  | j + 26, h => exact absurd h (by omega)
theorem xwb_131 : ∀ k, k < 26 → xf_W (131 + k) := fun k h => by
  match k, h with
  | 0, _ => exact xw_131
  | 1, _ => exact xw_132
  | 2, _ => exact xw_133
  | 3, _ => exact xw_134
  | 4, _ => exact xw_135
  | 5, _ => exact xw_136
  | 6, _ => exact xw_137
  | 7, _ => exact xw_138
  | 8, _ => exact xw_139
  | 9, _ => exact xw_140
  | 10, _ => exact xw_141
  | 11, _ => exact xw_142
  | 12, _ => exact xw_143
  | 13, _ => exact xw_144
  | 14, _ => exact xw_145
  | 15, _ => exact xw_146
  | 16, _ => exact xw_147
  | 17, _ => exact xw_148
  | 18, _ => exact xw_149
  | 19, _ => exact xw_150
  | 20, _ => exact xw_151
  | 21, _ => exact xw_152
  | 22, _ => exact xw_153
  | 23, _ => exact xw_154
  | 24, _ => exact xw_155
  | 25, _ => exact xw_156
  | j + 26, h => exact absurd h (by omega)
theorem xwb_157 : ∀ k, k < 22 → xf_W (157 + k) := fun k h => by
  match k, h with
  | 0, _ => exact xw_157
  | 1, _ => exact xw_158
  | 2, _ => exact xw_159
  | 3, _ => exact xw_160
  | 4, _ => exact xw_161
  | 5, _ => exact xw_162
  | 6, _ => exact xw_163
  | 7, _ => exact xw_164
  | 8, _ => exact xw_165
  | 9, _ => exact xw_166
  | 10, _ => exact xw_167
  | 11, _ => exact xw_168
  | 12, _ => exact xw_169
  | 13, _ => exact xw_170
  | 14, _ => exact xw_171
  | 15, _ => exact xw_172
  | 16, _ => exact xw_173
  | 17, _ => exact xw_174
  | 18, _ => exact xw_175
  | 19, _ => exact xw_176
  | 20, _ => exact xw_177
  | 21, _ => exact xw_178
  | j + 22, h => exact absurd h (by omega)
theorem xf_w {k : Nat} (h0 : 0 < k) (h : k < 179) : xf_W k := by
  by_cases h1 : k < 27
  · have e : k = 1 + (k - 1) := by omega
    rw [e]; exact xwb_1 _ (by omega)
  by_cases h27 : k < 53
  · have e : k = 27 + (k - 27) := by omega
    rw [e]; exact xwb_27 _ (by omega)
  by_cases h53 : k < 79
  · have e : k = 53 + (k - 53) := by omega
    rw [e]; exact xwb_53 _ (by omega)
  by_cases h79 : k < 105
  · have e : k = 79 + (k - 79) := by omega
    rw [e]; exact xwb_79 _ (by omega)
  by_cases h105 : k < 131
  · have e : k = 105 + (k - 105) := by omega
    rw [e]; exact xwb_105 _ (by omega)
  by_cases h131 : k < 157
  · have e : k = 131 + (k - 131) := by omega
    rw [e]; exact xwb_131 _ (by omega)
  have e : k = 157 + (k - 157) := by omega
  rw [e]; exact xwb_157 _ (by omega)
set_option maxRecDepth 100000 in
theorem xvb_1 : ∀ k, k < 26 → (xp_ml (1 + k) ≤ 40 ∧ xp_R (xp_own (1 + k)) = (xp_nm (1 + k)).cls) := by decide +kernel
set_option maxRecDepth 100000 in
theorem xvc_1 : ∀ k, k < 26 → (plainName (xp_nm (1 + k)).cls = true ∧ (xp_nm (1 + k)).cls ≠ "java/lang/invoke/MethodHandle" ∧ (xp_nm (1 + k)).cls ≠ "java/lang/invoke/VarHandle") := by decide +kernel
set_option maxRecDepth 100000 in
theorem xvd_1 : ∀ k, k < 26 → (parseMethodDescriptor (xp_nm (1 + k)).desc).map (fun d => d.parameters.length) = some (xp_np (1 + k)) := by decide +kernel
set_option maxRecDepth 100000 in
theorem xvb_27 : ∀ k, k < 26 → (xp_ml (27 + k) ≤ 40 ∧ xp_R (xp_own (27 + k)) = (xp_nm (27 + k)).cls) := by decide +kernel
set_option maxRecDepth 100000 in
theorem xvc_27 : ∀ k, k < 26 → (plainName (xp_nm (27 + k)).cls = true ∧ (xp_nm (27 + k)).cls ≠ "java/lang/invoke/MethodHandle" ∧ (xp_nm (27 + k)).cls ≠ "java/lang/invoke/VarHandle") := by decide +kernel
set_option maxRecDepth 100000 in
theorem xvd_27 : ∀ k, k < 26 → (parseMethodDescriptor (xp_nm (27 + k)).desc).map (fun d => d.parameters.length) = some (xp_np (27 + k)) := by decide +kernel
set_option maxRecDepth 100000 in
theorem xvb_53 : ∀ k, k < 26 → (xp_ml (53 + k) ≤ 40 ∧ xp_R (xp_own (53 + k)) = (xp_nm (53 + k)).cls) := by decide +kernel
set_option maxRecDepth 100000 in
theorem xvc_53 : ∀ k, k < 26 → (plainName (xp_nm (53 + k)).cls = true ∧ (xp_nm (53 + k)).cls ≠ "java/lang/invoke/MethodHandle" ∧ (xp_nm (53 + k)).cls ≠ "java/lang/invoke/VarHandle") := by decide +kernel
set_option maxRecDepth 100000 in
theorem xvd_53 : ∀ k, k < 26 → (parseMethodDescriptor (xp_nm (53 + k)).desc).map (fun d => d.parameters.length) = some (xp_np (53 + k)) := by decide +kernel
set_option maxRecDepth 100000 in
theorem xvb_79 : ∀ k, k < 26 → (xp_ml (79 + k) ≤ 40 ∧ xp_R (xp_own (79 + k)) = (xp_nm (79 + k)).cls) := by decide +kernel
set_option maxRecDepth 100000 in
theorem xvc_79 : ∀ k, k < 26 → (plainName (xp_nm (79 + k)).cls = true ∧ (xp_nm (79 + k)).cls ≠ "java/lang/invoke/MethodHandle" ∧ (xp_nm (79 + k)).cls ≠ "java/lang/invoke/VarHandle") := by decide +kernel
set_option maxRecDepth 100000 in
theorem xvd_79 : ∀ k, k < 26 → (parseMethodDescriptor (xp_nm (79 + k)).desc).map (fun d => d.parameters.length) = some (xp_np (79 + k)) := by decide +kernel
set_option maxRecDepth 100000 in
theorem xvb_105 : ∀ k, k < 26 → (xp_ml (105 + k) ≤ 40 ∧ xp_R (xp_own (105 + k)) = (xp_nm (105 + k)).cls) := by decide +kernel
set_option maxRecDepth 100000 in
theorem xvc_105 : ∀ k, k < 26 → (plainName (xp_nm (105 + k)).cls = true ∧ (xp_nm (105 + k)).cls ≠ "java/lang/invoke/MethodHandle" ∧ (xp_nm (105 + k)).cls ≠ "java/lang/invoke/VarHandle") := by decide +kernel
set_option maxRecDepth 100000 in
theorem xvd_105 : ∀ k, k < 26 → (parseMethodDescriptor (xp_nm (105 + k)).desc).map (fun d => d.parameters.length) = some (xp_np (105 + k)) := by decide +kernel
set_option maxRecDepth 100000 in
theorem xvb_131 : ∀ k, k < 26 → (xp_ml (131 + k) ≤ 40 ∧ xp_R (xp_own (131 + k)) = (xp_nm (131 + k)).cls) := by decide +kernel
set_option maxRecDepth 100000 in
theorem xvc_131 : ∀ k, k < 26 → (plainName (xp_nm (131 + k)).cls = true ∧ (xp_nm (131 + k)).cls ≠ "java/lang/invoke/MethodHandle" ∧ (xp_nm (131 + k)).cls ≠ "java/lang/invoke/VarHandle") := by decide +kernel
set_option maxRecDepth 100000 in
theorem xvd_131 : ∀ k, k < 26 → (parseMethodDescriptor (xp_nm (131 + k)).desc).map (fun d => d.parameters.length) = some (xp_np (131 + k)) := by decide +kernel
set_option maxRecDepth 100000 in
theorem xvb_157 : ∀ k, k < 22 → (xp_ml (157 + k) ≤ 40 ∧ xp_R (xp_own (157 + k)) = (xp_nm (157 + k)).cls) := by decide +kernel
set_option maxRecDepth 100000 in
theorem xvc_157 : ∀ k, k < 22 → (plainName (xp_nm (157 + k)).cls = true ∧ (xp_nm (157 + k)).cls ≠ "java/lang/invoke/MethodHandle" ∧ (xp_nm (157 + k)).cls ≠ "java/lang/invoke/VarHandle") := by decide +kernel
set_option maxRecDepth 100000 in
theorem xvd_157 : ∀ k, k < 22 → (parseMethodDescriptor (xp_nm (157 + k)).desc).map (fun d => d.parameters.length) = some (xp_np (157 + k)) := by decide +kernel
theorem xf_v {k : Nat} (h0 : 0 < k) (h : k < 179) : xf_V k := by
  by_cases h1 : k < 27
  · have e : k = 1 + (k - 1) := by omega
    rw [e]; exact ⟨(xvb_1 _ (by omega)).1, (xvc_1 _ (by omega)).1, (xvb_1 _ (by omega)).2, (xvc_1 _ (by omega)).2.1, (xvc_1 _ (by omega)).2.2, xvd_1 _ (by omega)⟩
  by_cases h27 : k < 53
  · have e : k = 27 + (k - 27) := by omega
    rw [e]; exact ⟨(xvb_27 _ (by omega)).1, (xvc_27 _ (by omega)).1, (xvb_27 _ (by omega)).2, (xvc_27 _ (by omega)).2.1, (xvc_27 _ (by omega)).2.2, xvd_27 _ (by omega)⟩
  by_cases h53 : k < 79
  · have e : k = 53 + (k - 53) := by omega
    rw [e]; exact ⟨(xvb_53 _ (by omega)).1, (xvc_53 _ (by omega)).1, (xvb_53 _ (by omega)).2, (xvc_53 _ (by omega)).2.1, (xvc_53 _ (by omega)).2.2, xvd_53 _ (by omega)⟩
  by_cases h79 : k < 105
  · have e : k = 79 + (k - 79) := by omega
    rw [e]; exact ⟨(xvb_79 _ (by omega)).1, (xvc_79 _ (by omega)).1, (xvb_79 _ (by omega)).2, (xvc_79 _ (by omega)).2.1, (xvc_79 _ (by omega)).2.2, xvd_79 _ (by omega)⟩
  by_cases h105 : k < 131
  · have e : k = 105 + (k - 105) := by omega
    rw [e]; exact ⟨(xvb_105 _ (by omega)).1, (xvc_105 _ (by omega)).1, (xvb_105 _ (by omega)).2, (xvc_105 _ (by omega)).2.1, (xvc_105 _ (by omega)).2.2, xvd_105 _ (by omega)⟩
  by_cases h131 : k < 157
  · have e : k = 131 + (k - 131) := by omega
    rw [e]; exact ⟨(xvb_131 _ (by omega)).1, (xvc_131 _ (by omega)).1, (xvb_131 _ (by omega)).2, (xvc_131 _ (by omega)).2.1, (xvc_131 _ (by omega)).2.2, xvd_131 _ (by omega)⟩
  have e : k = 157 + (k - 157) := by omega
  rw [e]; exact ⟨(xvb_157 _ (by omega)).1, (xvc_157 _ (by omega)).1, (xvb_157 _ (by omega)).2, (xvc_157 _ (by omega)).2.1, (xvc_157 _ (by omega)).2.2, xvd_157 _ (by omega)⟩
