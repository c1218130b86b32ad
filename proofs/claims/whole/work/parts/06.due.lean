theorem dr_Ex_due_75 (σ : nS) : vp_in (s_Ex_due_75 σ) 16 := by
  unfold s_Ex_due_75
  repeat' split
  all_goals first | exact vin_dec (by decide)
theorem dr_Ex_due_4_16 (v1 : Int32) (σ : nS) (qv1 : vp_in v1 16) : vp_in (s_Ex_due_4_16 v1 σ) 16 := by
  unfold s_Ex_due_4_16
  repeat' split
  all_goals first | exact vin_dec (by decide) | exact qv1 | exact dr_Ex_due_75 σ | exact dr_Ex_due_75 v1 σ qv1 | exact dr_Ex_due_75 _ σ (vin_dec (by decide))
theorem dr_Ex_due_49_15 (v1 : Int32) (σ : nS) (qv1 : vp_in v1 16) : vp_in (s_Ex_due_49_15 v1 σ) 16 := by
  unfold s_Ex_due_49_15
  repeat' split
  all_goals first | exact vin_dec (by decide) | exact qv1 | exact dr_Ex_due_4_16 σ | exact dr_Ex_due_4_16 v1 σ qv1 | exact dr_Ex_due_4_16 _ σ (vin_dec (by decide))
theorem dr_Ex_due_47_15 (σ : nS) : vp_in (s_Ex_due_47_15 σ) 16 := by
  unfold s_Ex_due_47_15
  repeat' split
  all_goals first | exact vin_dec (by decide) | exact dr_Ex_due_49_15 σ | exact dr_Ex_due_49_15 v1 σ qv1 | exact dr_Ex_due_49_15 _ σ (vin_dec (by decide))
theorem dr_Ex_due_4_15 (v1 : Int32) (σ : nS) (qv1 : vp_in v1 16) : vp_in (s_Ex_due_4_15 v1 σ) 16 := by
  unfold s_Ex_due_4_15
  repeat' split
  all_goals first | exact vin_dec (by decide) | exact qv1 | exact dr_Ex_due_49_15 σ | exact dr_Ex_due_49_15 v1 σ qv1 | exact dr_Ex_due_49_15 _ σ (vin_dec (by decide)) | exact dr_Ex_due_47_15 σ | exact dr_Ex_due_47_15 v1 σ qv1 | exact dr_Ex_due_47_15 _ σ (vin_dec (by decide))
theorem dr_Ex_due_49_14 (v1 : Int32) (σ : nS) (qv1 : vp_in v1 16) : vp_in (s_Ex_due_49_14 v1 σ) 16 := by
  unfold s_Ex_due_49_14
  repeat' split
  all_goals first | exact vin_dec (by decide) | exact qv1 | exact dr_Ex_due_4_15 σ | exact dr_Ex_due_4_15 v1 σ qv1 | exact dr_Ex_due_4_15 _ σ (vin_dec (by decide))
theorem dr_Ex_due_47_14 (σ : nS) : vp_in (s_Ex_due_47_14 σ) 16 := by
  unfold s_Ex_due_47_14
  repeat' split
  all_goals first | exact vin_dec (by decide) | exact dr_Ex_due_49_14 σ | exact dr_Ex_due_49_14 v1 σ qv1 | exact dr_Ex_due_49_14 _ σ (vin_dec (by decide))
theorem dr_Ex_due_4_14 (v1 : Int32) (σ : nS) (qv1 : vp_in v1 16) : vp_in (s_Ex_due_4_14 v1 σ) 16 := by
  unfold s_Ex_due_4_14
  repeat' split
  all_goals first | exact vin_dec (by decide) | exact qv1 | exact dr_Ex_due_49_14 σ | exact dr_Ex_due_49_14 v1 σ qv1 | exact dr_Ex_due_49_14 _ σ (vin_dec (by decide)) | exact dr_Ex_due_47_14 σ | exact dr_Ex_due_47_14 v1 σ qv1 | exact dr_Ex_due_47_14 _ σ (vin_dec (by decide))
theorem dr_Ex_due_49_13 (v1 : Int32) (σ : nS) (qv1 : vp_in v1 16) : vp_in (s_Ex_due_49_13 v1 σ) 16 := by
  unfold s_Ex_due_49_13
  repeat' split
  all_goals first | exact vin_dec (by decide) | exact qv1 | exact dr_Ex_due_4_14 σ | exact dr_Ex_due_4_14 v1 σ qv1 | exact dr_Ex_due_4_14 _ σ (vin_dec (by decide))
theorem dr_Ex_due_47_13 (σ : nS) : vp_in (s_Ex_due_47_13 σ) 16 := by
  unfold s_Ex_due_47_13
  repeat' split
  all_goals first | exact vin_dec (by decide) | exact dr_Ex_due_49_13 σ | exact dr_Ex_due_49_13 v1 σ qv1 | exact dr_Ex_due_49_13 _ σ (vin_dec (by decide))
theorem dr_Ex_due_4_13 (v1 : Int32) (σ : nS) (qv1 : vp_in v1 16) : vp_in (s_Ex_due_4_13 v1 σ) 16 := by
  unfold s_Ex_due_4_13
  repeat' split
  all_goals first | exact vin_dec (by decide) | exact qv1 | exact dr_Ex_due_49_13 σ | exact dr_Ex_due_49_13 v1 σ qv1 | exact dr_Ex_due_49_13 _ σ (vin_dec (by decide)) | exact dr_Ex_due_47_13 σ | exact dr_Ex_due_47_13 v1 σ qv1 | exact dr_Ex_due_47_13 _ σ (vin_dec (by decide))
theorem dr_Ex_due_49_12 (v1 : Int32) (σ : nS) (qv1 : vp_in v1 16) : vp_in (s_Ex_due_49_12 v1 σ) 16 := by
  unfold s_Ex_due_49_12
  repeat' split
  all_goals first | exact vin_dec (by decide) | exact qv1 | exact dr_Ex_due_4_13 σ | exact dr_Ex_due_4_13 v1 σ qv1 | exact dr_Ex_due_4_13 _ σ (vin_dec (by decide))
theorem dr_Ex_due_47_12 (σ : nS) : vp_in (s_Ex_due_47_12 σ) 16 := by
  unfold s_Ex_due_47_12
  repeat' split
  all_goals first | exact vin_dec (by decide) | exact dr_Ex_due_49_12 σ | exact dr_Ex_due_49_12 v1 σ qv1 | exact dr_Ex_due_49_12 _ σ (vin_dec (by decide))
theorem dr_Ex_due_4_12 (v1 : Int32) (σ : nS) (qv1 : vp_in v1 16) : vp_in (s_Ex_due_4_12 v1 σ) 16 := by
  unfold s_Ex_due_4_12
  repeat' split
  all_goals first | exact vin_dec (by decide) | exact qv1 | exact dr_Ex_due_49_12 σ | exact dr_Ex_due_49_12 v1 σ qv1 | exact dr_Ex_due_49_12 _ σ (vin_dec (by decide)) | exact dr_Ex_due_47_12 σ | exact dr_Ex_due_47_12 v1 σ qv1 | exact dr_Ex_due_47_12 _ σ (vin_dec (by decide))
theorem dr_Ex_due_49_11 (v1 : Int32) (σ : nS) (qv1 : vp_in v1 16) : vp_in (s_Ex_due_49_11 v1 σ) 16 := by
  unfold s_Ex_due_49_11
  repeat' split
  all_goals first | exact vin_dec (by decide) | exact qv1 | exact dr_Ex_due_4_12 σ | exact dr_Ex_due_4_12 v1 σ qv1 | exact dr_Ex_due_4_12 _ σ (vin_dec (by decide))
theorem dr_Ex_due_47_11 (σ : nS) : vp_in (s_Ex_due_47_11 σ) 16 := by
  unfold s_Ex_due_47_11
  repeat' split
  all_goals first | exact vin_dec (by decide) | exact dr_Ex_due_49_11 σ | exact dr_Ex_due_49_11 v1 σ qv1 | exact dr_Ex_due_49_11 _ σ (vin_dec (by decide))
theorem dr_Ex_due_4_11 (v1 : Int32) (σ : nS) (qv1 : vp_in v1 16) : vp_in (s_Ex_due_4_11 v1 σ) 16 := by
  unfold s_Ex_due_4_11
  repeat' split
  all_goals first | exact vin_dec (by decide) | exact qv1 | exact dr_Ex_due_49_11 σ | exact dr_Ex_due_49_11 v1 σ qv1 | exact dr_Ex_due_49_11 _ σ (vin_dec (by decide)) | exact dr_Ex_due_47_11 σ | exact dr_Ex_due_47_11 v1 σ qv1 | exact dr_Ex_due_47_11 _ σ (vin_dec (by decide))
theorem dr_Ex_due_49_10 (v1 : Int32) (σ : nS) (qv1 : vp_in v1 16) : vp_in (s_Ex_due_49_10 v1 σ) 16 := by
  unfold s_Ex_due_49_10
  repeat' split
  all_goals first | exact vin_dec (by decide) | exact qv1 | exact dr_Ex_due_4_11 σ | exact dr_Ex_due_4_11 v1 σ qv1 | exact dr_Ex_due_4_11 _ σ (vin_dec (by decide))
theorem dr_Ex_due_47_10 (σ : nS) : vp_in (s_Ex_due_47_10 σ) 16 := by
  unfold s_Ex_due_47_10
  repeat' split
  all_goals first | exact vin_dec (by decide) | exact dr_Ex_due_49_10 σ | exact dr_Ex_due_49_10 v1 σ qv1 | exact dr_Ex_due_49_10 _ σ (vin_dec (by decide))
theorem dr_Ex_due_4_10 (v1 : Int32) (σ : nS) (qv1 : vp_in v1 16) : vp_in (s_Ex_due_4_10 v1 σ) 16 := by
  unfold s_Ex_due_4_10
  repeat' split
  all_goals first | exact vin_dec (by decide) | exact qv1 | exact dr_Ex_due_49_10 σ | exact dr_Ex_due_49_10 v1 σ qv1 | exact dr_Ex_due_49_10 _ σ (vin_dec (by decide)) | exact dr_Ex_due_47_10 σ | exact dr_Ex_due_47_10 v1 σ qv1 | exact dr_Ex_due_47_10 _ σ (vin_dec (by decide))
theorem dr_Ex_due_49_9 (v1 : Int32) (σ : nS) (qv1 : vp_in v1 16) : vp_in (s_Ex_due_49_9 v1 σ) 16 := by
  unfold s_Ex_due_49_9
  repeat' split
  all_goals first | exact vin_dec (by decide) | exact qv1 | exact dr_Ex_due_4_10 σ | exact dr_Ex_due_4_10 v1 σ qv1 | exact dr_Ex_due_4_10 _ σ (vin_dec (by decide))
theorem dr_Ex_due_47_9 (σ : nS) : vp_in (s_Ex_due_47_9 σ) 16 := by
  unfold s_Ex_due_47_9
  repeat' split
  all_goals first | exact vin_dec (by decide) | exact dr_Ex_due_49_9 σ | exact dr_Ex_due_49_9 v1 σ qv1 | exact dr_Ex_due_49_9 _ σ (vin_dec (by decide))
theorem dr_Ex_due_4_9 (v1 : Int32) (σ : nS) (qv1 : vp_in v1 16) : vp_in (s_Ex_due_4_9 v1 σ) 16 := by
  unfold s_Ex_due_4_9
  repeat' split
  all_goals first | exact vin_dec (by decide) | exact qv1 | exact dr_Ex_due_49_9 σ | exact dr_Ex_due_49_9 v1 σ qv1 | exact dr_Ex_due_49_9 _ σ (vin_dec (by decide)) | exact dr_Ex_due_47_9 σ | exact dr_Ex_due_47_9 v1 σ qv1 | exact dr_Ex_due_47_9 _ σ (vin_dec (by decide))
theorem dr_Ex_due_49_8 (v1 : Int32) (σ : nS) (qv1 : vp_in v1 16) : vp_in (s_Ex_due_49_8 v1 σ) 16 := by
  unfold s_Ex_due_49_8
  repeat' split
  all_goals first | exact vin_dec (by decide) | exact qv1 | exact dr_Ex_due_4_9 σ | exact dr_Ex_due_4_9 v1 σ qv1 | exact dr_Ex_due_4_9 _ σ (vin_dec (by decide))
theorem dr_Ex_due_47_8 (σ : nS) : vp_in (s_Ex_due_47_8 σ) 16 := by
  unfold s_Ex_due_47_8
  repeat' split
  all_goals first | exact vin_dec (by decide) | exact dr_Ex_due_49_8 σ | exact dr_Ex_due_49_8 v1 σ qv1 | exact dr_Ex_due_49_8 _ σ (vin_dec (by decide))
theorem dr_Ex_due_4_8 (v1 : Int32) (σ : nS) (qv1 : vp_in v1 16) : vp_in (s_Ex_due_4_8 v1 σ) 16 := by
  unfold s_Ex_due_4_8
  repeat' split
  all_goals first | exact vin_dec (by decide) | exact qv1 | exact dr_Ex_due_49_8 σ | exact dr_Ex_due_49_8 v1 σ qv1 | exact dr_Ex_due_49_8 _ σ (vin_dec (by decide)) | exact dr_Ex_due_47_8 σ | exact dr_Ex_due_47_8 v1 σ qv1 | exact dr_Ex_due_47_8 _ σ (vin_dec (by decide))
theorem dr_Ex_due_49_7 (v1 : Int32) (σ : nS) (qv1 : vp_in v1 16) : vp_in (s_Ex_due_49_7 v1 σ) 16 := by
  unfold s_Ex_due_49_7
  repeat' split
  all_goals first | exact vin_dec (by decide) | exact qv1 | exact dr_Ex_due_4_8 σ | exact dr_Ex_due_4_8 v1 σ qv1 | exact dr_Ex_due_4_8 _ σ (vin_dec (by decide))
theorem dr_Ex_due_47_7 (σ : nS) : vp_in (s_Ex_due_47_7 σ) 16 := by
  unfold s_Ex_due_47_7
  repeat' split
  all_goals first | exact vin_dec (by decide) | exact dr_Ex_due_49_7 σ | exact dr_Ex_due_49_7 v1 σ qv1 | exact dr_Ex_due_49_7 _ σ (vin_dec (by decide))
theorem dr_Ex_due_4_7 (v1 : Int32) (σ : nS) (qv1 : vp_in v1 16) : vp_in (s_Ex_due_4_7 v1 σ) 16 := by
  unfold s_Ex_due_4_7
  repeat' split
  all_goals first | exact vin_dec (by decide) | exact qv1 | exact dr_Ex_due_49_7 σ | exact dr_Ex_due_49_7 v1 σ qv1 | exact dr_Ex_due_49_7 _ σ (vin_dec (by decide)) | exact dr_Ex_due_47_7 σ | exact dr_Ex_due_47_7 v1 σ qv1 | exact dr_Ex_due_47_7 _ σ (vin_dec (by decide))
theorem dr_Ex_due_49_6 (v1 : Int32) (σ : nS) (qv1 : vp_in v1 16) : vp_in (s_Ex_due_49_6 v1 σ) 16 := by
  unfold s_Ex_due_49_6
  repeat' split
  all_goals first | exact vin_dec (by decide) | exact qv1 | exact dr_Ex_due_4_7 σ | exact dr_Ex_due_4_7 v1 σ qv1 | exact dr_Ex_due_4_7 _ σ (vin_dec (by decide))
theorem dr_Ex_due_47_6 (σ : nS) : vp_in (s_Ex_due_47_6 σ) 16 := by
  unfold s_Ex_due_47_6
  repeat' split
  all_goals first | exact vin_dec (by decide) | exact dr_Ex_due_49_6 σ | exact dr_Ex_due_49_6 v1 σ qv1 | exact dr_Ex_due_49_6 _ σ (vin_dec (by decide))
theorem dr_Ex_due_4_6 (v1 : Int32) (σ : nS) (qv1 : vp_in v1 16) : vp_in (s_Ex_due_4_6 v1 σ) 16 := by
  unfold s_Ex_due_4_6
  repeat' split
  all_goals first | exact vin_dec (by decide) | exact qv1 | exact dr_Ex_due_49_6 σ | exact dr_Ex_due_49_6 v1 σ qv1 | exact dr_Ex_due_49_6 _ σ (vin_dec (by decide)) | exact dr_Ex_due_47_6 σ | exact dr_Ex_due_47_6 v1 σ qv1 | exact dr_Ex_due_47_6 _ σ (vin_dec (by decide))
theorem dr_Ex_due_49_5 (v1 : Int32) (σ : nS) (qv1 : vp_in v1 16) : vp_in (s_Ex_due_49_5 v1 σ) 16 := by
  unfold s_Ex_due_49_5
  repeat' split
  all_goals first | exact vin_dec (by decide) | exact qv1 | exact dr_Ex_due_4_6 σ | exact dr_Ex_due_4_6 v1 σ qv1 | exact dr_Ex_due_4_6 _ σ (vin_dec (by decide))
theorem dr_Ex_due_47_5 (σ : nS) : vp_in (s_Ex_due_47_5 σ) 16 := by
  unfold s_Ex_due_47_5
  repeat' split
  all_goals first | exact vin_dec (by decide) | exact dr_Ex_due_49_5 σ | exact dr_Ex_due_49_5 v1 σ qv1 | exact dr_Ex_due_49_5 _ σ (vin_dec (by decide))
theorem dr_Ex_due_4_5 (v1 : Int32) (σ : nS) (qv1 : vp_in v1 16) : vp_in (s_Ex_due_4_5 v1 σ) 16 := by
  unfold s_Ex_due_4_5
  repeat' split
  all_goals first | exact vin_dec (by decide) | exact qv1 | exact dr_Ex_due_49_5 σ | exact dr_Ex_due_49_5 v1 σ qv1 | exact dr_Ex_due_49_5 _ σ (vin_dec (by decide)) | exact dr_Ex_due_47_5 σ | exact dr_Ex_due_47_5 v1 σ qv1 | exact dr_Ex_due_47_5 _ σ (vin_dec (by decide))
theorem dr_Ex_due_49_4 (v1 : Int32) (σ : nS) (qv1 : vp_in v1 16) : vp_in (s_Ex_due_49_4 v1 σ) 16 := by
  unfold s_Ex_due_49_4
  repeat' split
  all_goals first | exact vin_dec (by decide) | exact qv1 | exact dr_Ex_due_4_5 σ | exact dr_Ex_due_4_5 v1 σ qv1 | exact dr_Ex_due_4_5 _ σ (vin_dec (by decide))
theorem dr_Ex_due_47_4 (σ : nS) : vp_in (s_Ex_due_47_4 σ) 16 := by
  unfold s_Ex_due_47_4
  repeat' split
  all_goals first | exact vin_dec (by decide) | exact dr_Ex_due_49_4 σ | exact dr_Ex_due_49_4 v1 σ qv1 | exact dr_Ex_due_49_4 _ σ (vin_dec (by decide))
theorem dr_Ex_due_4_4 (v1 : Int32) (σ : nS) (qv1 : vp_in v1 16) : vp_in (s_Ex_due_4_4 v1 σ) 16 := by
  unfold s_Ex_due_4_4
  repeat' split
  all_goals first | exact vin_dec (by decide) | exact qv1 | exact dr_Ex_due_49_4 σ | exact dr_Ex_due_49_4 v1 σ qv1 | exact dr_Ex_due_49_4 _ σ (vin_dec (by decide)) | exact dr_Ex_due_47_4 σ | exact dr_Ex_due_47_4 v1 σ qv1 | exact dr_Ex_due_47_4 _ σ (vin_dec (by decide))
theorem dr_Ex_due_49_3 (v1 : Int32) (σ : nS) (qv1 : vp_in v1 16) : vp_in (s_Ex_due_49_3 v1 σ) 16 := by
  unfold s_Ex_due_49_3
  repeat' split
  all_goals first | exact vin_dec (by decide) | exact qv1 | exact dr_Ex_due_4_4 σ | exact dr_Ex_due_4_4 v1 σ qv1 | exact dr_Ex_due_4_4 _ σ (vin_dec (by decide))
theorem dr_Ex_due_47_3 (σ : nS) : vp_in (s_Ex_due_47_3 σ) 16 := by
  unfold s_Ex_due_47_3
  repeat' split
  all_goals first | exact vin_dec (by decide) | exact dr_Ex_due_49_3 σ | exact dr_Ex_due_49_3 v1 σ qv1 | exact dr_Ex_due_49_3 _ σ (vin_dec (by decide))
theorem dr_Ex_due_4_3 (v1 : Int32) (σ : nS) (qv1 : vp_in v1 16) : vp_in (s_Ex_due_4_3 v1 σ) 16 := by
  unfold s_Ex_due_4_3
  repeat' split
  all_goals first | exact vin_dec (by decide) | exact qv1 | exact dr_Ex_due_49_3 σ | exact dr_Ex_due_49_3 v1 σ qv1 | exact dr_Ex_due_49_3 _ σ (vin_dec (by decide)) | exact dr_Ex_due_47_3 σ | exact dr_Ex_due_47_3 v1 σ qv1 | exact dr_Ex_due_47_3 _ σ (vin_dec (by decide))
theorem dr_Ex_due_49_2 (v1 : Int32) (σ : nS) (qv1 : vp_in v1 16) : vp_in (s_Ex_due_49_2 v1 σ) 16 := by
  unfold s_Ex_due_49_2
  repeat' split
  all_goals first | exact vin_dec (by decide) | exact qv1 | exact dr_Ex_due_4_3 σ | exact dr_Ex_due_4_3 v1 σ qv1 | exact dr_Ex_due_4_3 _ σ (vin_dec (by decide))
theorem dr_Ex_due_47_2 (σ : nS) : vp_in (s_Ex_due_47_2 σ) 16 := by
  unfold s_Ex_due_47_2
  repeat' split
  all_goals first | exact vin_dec (by decide) | exact dr_Ex_due_49_2 σ | exact dr_Ex_due_49_2 v1 σ qv1 | exact dr_Ex_due_49_2 _ σ (vin_dec (by decide))
theorem dr_Ex_due_4_2 (σ : nS) : vp_in (s_Ex_due_4_2 σ) 16 := by
  unfold s_Ex_due_4_2
  repeat' split
  all_goals first | exact vin_dec (by decide) | exact dr_Ex_due_49_2 σ | exact dr_Ex_due_49_2 v1 σ qv1 | exact dr_Ex_due_49_2 _ σ (vin_dec (by decide)) | exact dr_Ex_due_47_2 σ | exact dr_Ex_due_47_2 v1 σ qv1 | exact dr_Ex_due_47_2 _ σ (vin_dec (by decide))
theorem dr_Ex_due (σ : nS) : vp_in (s_Ex_due σ) 16 := by
  unfold s_Ex_due
  repeat' split
  all_goals first | exact vin_dec (by decide) | exact dr_Ex_due_4_2 σ | exact dr_Ex_due_4_2 v1 σ qv1 | exact dr_Ex_due_4_2 _ σ (vin_dec (by decide))
theorem dr_Mo_due_80 (σ : nS) : vp_in (s_Mo_due_80 σ) 16 := by
  unfold s_Mo_due_80
  repeat' split
  all_goals first | exact vin_dec (by decide)
theorem dr_Mo_due_5_1 (v1 : Int32) (σ : nS) (qv1 : vp_in v1 16) : vp_in (s_Mo_due_5_1 v1 σ) 16 := by
  unfold s_Mo_due_5_1
  repeat' split
  all_goals first | exact vin_dec (by decide) | exact qv1 | exact dr_Mo_due_80 σ | exact dr_Mo_due_80 v1 σ qv1 | exact dr_Mo_due_80 _ σ (vin_dec (by decide))
theorem dr_Mo_due_49_2 (v1 : Int32) (σ : nS) (qv1 : vp_in v1 16) : vp_in (s_Mo_due_49_2 v1 σ) 16 := by
  unfold s_Mo_due_49_2
  repeat' split
  all_goals first | exact vin_dec (by decide) | exact qv1 | exact dr_Mo_due_5_1 σ | exact dr_Mo_due_5_1 v1 σ qv1 | exact dr_Mo_due_5_1 _ σ (vin_dec (by decide))
theorem dr_Mo_due_47_2 (σ : nS) : vp_in (s_Mo_due_47_2 σ) 16 := by
  unfold s_Mo_due_47_2
  repeat' split
  all_goals first | exact vin_dec (by decide) | exact dr_Mo_due_49_2 σ | exact dr_Mo_due_49_2 v1 σ qv1 | exact dr_Mo_due_49_2 _ σ (vin_dec (by decide))
theorem dr_Mo_due_5_2 (v1 : Int32) (σ : nS) (qv1 : vp_in v1 16) : vp_in (s_Mo_due_5_2 v1 σ) 16 := by
  unfold s_Mo_due_5_2
  repeat' split
  all_goals first | exact vin_dec (by decide) | exact qv1 | exact dr_Mo_due_49_2 σ | exact dr_Mo_due_49_2 v1 σ qv1 | exact dr_Mo_due_49_2 _ σ (vin_dec (by decide)) | exact dr_Mo_due_47_2 σ | exact dr_Mo_due_47_2 v1 σ qv1 | exact dr_Mo_due_47_2 _ σ (vin_dec (by decide))
theorem dr_Mo_due_49_3 (v1 : Int32) (σ : nS) (qv1 : vp_in v1 16) : vp_in (s_Mo_due_49_3 v1 σ) 16 := by
  unfold s_Mo_due_49_3
  repeat' split
  all_goals first | exact vin_dec (by decide) | exact qv1 | exact dr_Mo_due_5_2 σ | exact dr_Mo_due_5_2 v1 σ qv1 | exact dr_Mo_due_5_2 _ σ (vin_dec (by decide))
theorem dr_Mo_due_47_3 (σ : nS) : vp_in (s_Mo_due_47_3 σ) 16 := by
  unfold s_Mo_due_47_3
  repeat' split
  all_goals first | exact vin_dec (by decide) | exact dr_Mo_due_49_3 σ | exact dr_Mo_due_49_3 v1 σ qv1 | exact dr_Mo_due_49_3 _ σ (vin_dec (by decide))
theorem dr_Mo_due_5_3 (v1 : Int32) (σ : nS) (qv1 : vp_in v1 16) : vp_in (s_Mo_due_5_3 v1 σ) 16 := by
  unfold s_Mo_due_5_3
  repeat' split
  all_goals first | exact vin_dec (by decide) | exact qv1 | exact dr_Mo_due_49_3 σ | exact dr_Mo_due_49_3 v1 σ qv1 | exact dr_Mo_due_49_3 _ σ (vin_dec (by decide)) | exact dr_Mo_due_47_3 σ | exact dr_Mo_due_47_3 v1 σ qv1 | exact dr_Mo_due_47_3 _ σ (vin_dec (by decide))
theorem dr_Mo_due_49_4 (v1 : Int32) (σ : nS) (qv1 : vp_in v1 16) : vp_in (s_Mo_due_49_4 v1 σ) 16 := by
  unfold s_Mo_due_49_4
  repeat' split
  all_goals first | exact vin_dec (by decide) | exact qv1 | exact dr_Mo_due_5_3 σ | exact dr_Mo_due_5_3 v1 σ qv1 | exact dr_Mo_due_5_3 _ σ (vin_dec (by decide))
theorem dr_Mo_due_47_4 (σ : nS) : vp_in (s_Mo_due_47_4 σ) 16 := by
  unfold s_Mo_due_47_4
  repeat' split
  all_goals first | exact vin_dec (by decide) | exact dr_Mo_due_49_4 σ | exact dr_Mo_due_49_4 v1 σ qv1 | exact dr_Mo_due_49_4 _ σ (vin_dec (by decide))
theorem dr_Mo_due_5_4 (v1 : Int32) (σ : nS) (qv1 : vp_in v1 16) : vp_in (s_Mo_due_5_4 v1 σ) 16 := by
  unfold s_Mo_due_5_4
  repeat' split
  all_goals first | exact vin_dec (by decide) | exact qv1 | exact dr_Mo_due_49_4 σ | exact dr_Mo_due_49_4 v1 σ qv1 | exact dr_Mo_due_49_4 _ σ (vin_dec (by decide)) | exact dr_Mo_due_47_4 σ | exact dr_Mo_due_47_4 v1 σ qv1 | exact dr_Mo_due_47_4 _ σ (vin_dec (by decide))
theorem dr_Mo_due_49_5 (v1 : Int32) (σ : nS) (qv1 : vp_in v1 16) : vp_in (s_Mo_due_49_5 v1 σ) 16 := by
  unfold s_Mo_due_49_5
  repeat' split
  all_goals first | exact vin_dec (by decide) | exact qv1 | exact dr_Mo_due_5_4 σ | exact dr_Mo_due_5_4 v1 σ qv1 | exact dr_Mo_due_5_4 _ σ (vin_dec (by decide))
theorem dr_Mo_due_47_5 (σ : nS) : vp_in (s_Mo_due_47_5 σ) 16 := by
  unfold s_Mo_due_47_5
  repeat' split
  all_goals first | exact vin_dec (by decide) | exact dr_Mo_due_49_5 σ | exact dr_Mo_due_49_5 v1 σ qv1 | exact dr_Mo_due_49_5 _ σ (vin_dec (by decide))
theorem dr_Mo_due_5_5 (v1 : Int32) (σ : nS) (qv1 : vp_in v1 16) : vp_in (s_Mo_due_5_5 v1 σ) 16 := by
  unfold s_Mo_due_5_5
  repeat' split
  all_goals first | exact vin_dec (by decide) | exact qv1 | exact dr_Mo_due_49_5 σ | exact dr_Mo_due_49_5 v1 σ qv1 | exact dr_Mo_due_49_5 _ σ (vin_dec (by decide)) | exact dr_Mo_due_47_5 σ | exact dr_Mo_due_47_5 v1 σ qv1 | exact dr_Mo_due_47_5 _ σ (vin_dec (by decide))
theorem dr_Mo_due_49_6 (v1 : Int32) (σ : nS) (qv1 : vp_in v1 16) : vp_in (s_Mo_due_49_6 v1 σ) 16 := by
  unfold s_Mo_due_49_6
  repeat' split
  all_goals first | exact vin_dec (by decide) | exact qv1 | exact dr_Mo_due_5_5 σ | exact dr_Mo_due_5_5 v1 σ qv1 | exact dr_Mo_due_5_5 _ σ (vin_dec (by decide))
theorem dr_Mo_due_47_6 (σ : nS) : vp_in (s_Mo_due_47_6 σ) 16 := by
  unfold s_Mo_due_47_6
  repeat' split
  all_goals first | exact vin_dec (by decide) | exact dr_Mo_due_49_6 σ | exact dr_Mo_due_49_6 v1 σ qv1 | exact dr_Mo_due_49_6 _ σ (vin_dec (by decide))
theorem dr_Mo_due_5_6 (v1 : Int32) (σ : nS) (qv1 : vp_in v1 16) : vp_in (s_Mo_due_5_6 v1 σ) 16 := by
  unfold s_Mo_due_5_6
  repeat' split
  all_goals first | exact vin_dec (by decide) | exact qv1 | exact dr_Mo_due_49_6 σ | exact dr_Mo_due_49_6 v1 σ qv1 | exact dr_Mo_due_49_6 _ σ (vin_dec (by decide)) | exact dr_Mo_due_47_6 σ | exact dr_Mo_due_47_6 v1 σ qv1 | exact dr_Mo_due_47_6 _ σ (vin_dec (by decide))
theorem dr_Mo_due_49_7 (v1 : Int32) (σ : nS) (qv1 : vp_in v1 16) : vp_in (s_Mo_due_49_7 v1 σ) 16 := by
  unfold s_Mo_due_49_7
  repeat' split
  all_goals first | exact vin_dec (by decide) | exact qv1 | exact dr_Mo_due_5_6 σ | exact dr_Mo_due_5_6 v1 σ qv1 | exact dr_Mo_due_5_6 _ σ (vin_dec (by decide))
theorem dr_Mo_due_47_7 (σ : nS) : vp_in (s_Mo_due_47_7 σ) 16 := by
  unfold s_Mo_due_47_7
  repeat' split
  all_goals first | exact vin_dec (by decide) | exact dr_Mo_due_49_7 σ | exact dr_Mo_due_49_7 v1 σ qv1 | exact dr_Mo_due_49_7 _ σ (vin_dec (by decide))
theorem dr_Mo_due_5_7 (v1 : Int32) (σ : nS) (qv1 : vp_in v1 16) : vp_in (s_Mo_due_5_7 v1 σ) 16 := by
  unfold s_Mo_due_5_7
  repeat' split
  all_goals first | exact vin_dec (by decide) | exact qv1 | exact dr_Mo_due_49_7 σ | exact dr_Mo_due_49_7 v1 σ qv1 | exact dr_Mo_due_49_7 _ σ (vin_dec (by decide)) | exact dr_Mo_due_47_7 σ | exact dr_Mo_due_47_7 v1 σ qv1 | exact dr_Mo_due_47_7 _ σ (vin_dec (by decide))
theorem dr_Mo_due_49_8 (v1 : Int32) (σ : nS) (qv1 : vp_in v1 16) : vp_in (s_Mo_due_49_8 v1 σ) 16 := by
  unfold s_Mo_due_49_8
  repeat' split
  all_goals first | exact vin_dec (by decide) | exact qv1 | exact dr_Mo_due_5_7 σ | exact dr_Mo_due_5_7 v1 σ qv1 | exact dr_Mo_due_5_7 _ σ (vin_dec (by decide))
theorem dr_Mo_due_47_8 (σ : nS) : vp_in (s_Mo_due_47_8 σ) 16 := by
  unfold s_Mo_due_47_8
  repeat' split
  all_goals first | exact vin_dec (by decide) | exact dr_Mo_due_49_8 σ | exact dr_Mo_due_49_8 v1 σ qv1 | exact dr_Mo_due_49_8 _ σ (vin_dec (by decide))
theorem dr_Mo_due_5_8 (v1 : Int32) (σ : nS) (qv1 : vp_in v1 16) : vp_in (s_Mo_due_5_8 v1 σ) 16 := by
  unfold s_Mo_due_5_8
  repeat' split
  all_goals first | exact vin_dec (by decide) | exact qv1 | exact dr_Mo_due_49_8 σ | exact dr_Mo_due_49_8 v1 σ qv1 | exact dr_Mo_due_49_8 _ σ (vin_dec (by decide)) | exact dr_Mo_due_47_8 σ | exact dr_Mo_due_47_8 v1 σ qv1 | exact dr_Mo_due_47_8 _ σ (vin_dec (by decide))
theorem dr_Mo_due_49_9 (v1 : Int32) (σ : nS) (qv1 : vp_in v1 16) : vp_in (s_Mo_due_49_9 v1 σ) 16 := by
  unfold s_Mo_due_49_9
  repeat' split
  all_goals first | exact vin_dec (by decide) | exact qv1 | exact dr_Mo_due_5_8 σ | exact dr_Mo_due_5_8 v1 σ qv1 | exact dr_Mo_due_5_8 _ σ (vin_dec (by decide))
theorem dr_Mo_due_47_9 (σ : nS) : vp_in (s_Mo_due_47_9 σ) 16 := by
  unfold s_Mo_due_47_9
  repeat' split
  all_goals first | exact vin_dec (by decide) | exact dr_Mo_due_49_9 σ | exact dr_Mo_due_49_9 v1 σ qv1 | exact dr_Mo_due_49_9 _ σ (vin_dec (by decide))
theorem dr_Mo_due_5_9 (v1 : Int32) (σ : nS) (qv1 : vp_in v1 16) : vp_in (s_Mo_due_5_9 v1 σ) 16 := by
  unfold s_Mo_due_5_9
  repeat' split
  all_goals first | exact vin_dec (by decide) | exact qv1 | exact dr_Mo_due_49_9 σ | exact dr_Mo_due_49_9 v1 σ qv1 | exact dr_Mo_due_49_9 _ σ (vin_dec (by decide)) | exact dr_Mo_due_47_9 σ | exact dr_Mo_due_47_9 v1 σ qv1 | exact dr_Mo_due_47_9 _ σ (vin_dec (by decide))
theorem dr_Mo_due_49_10 (v1 : Int32) (σ : nS) (qv1 : vp_in v1 16) : vp_in (s_Mo_due_49_10 v1 σ) 16 := by
  unfold s_Mo_due_49_10
  repeat' split
  all_goals first | exact vin_dec (by decide) | exact qv1 | exact dr_Mo_due_5_9 σ | exact dr_Mo_due_5_9 v1 σ qv1 | exact dr_Mo_due_5_9 _ σ (vin_dec (by decide))
theorem dr_Mo_due_47_10 (σ : nS) : vp_in (s_Mo_due_47_10 σ) 16 := by
  unfold s_Mo_due_47_10
  repeat' split
  all_goals first | exact vin_dec (by decide) | exact dr_Mo_due_49_10 σ | exact dr_Mo_due_49_10 v1 σ qv1 | exact dr_Mo_due_49_10 _ σ (vin_dec (by decide))
theorem dr_Mo_due_5_10 (v1 : Int32) (σ : nS) (qv1 : vp_in v1 16) : vp_in (s_Mo_due_5_10 v1 σ) 16 := by
  unfold s_Mo_due_5_10
  repeat' split
  all_goals first | exact vin_dec (by decide) | exact qv1 | exact dr_Mo_due_49_10 σ | exact dr_Mo_due_49_10 v1 σ qv1 | exact dr_Mo_due_49_10 _ σ (vin_dec (by decide)) | exact dr_Mo_due_47_10 σ | exact dr_Mo_due_47_10 v1 σ qv1 | exact dr_Mo_due_47_10 _ σ (vin_dec (by decide))
theorem dr_Mo_due_49_11 (v1 : Int32) (σ : nS) (qv1 : vp_in v1 16) : vp_in (s_Mo_due_49_11 v1 σ) 16 := by
  unfold s_Mo_due_49_11
  repeat' split
  all_goals first | exact vin_dec (by decide) | exact qv1 | exact dr_Mo_due_5_10 σ | exact dr_Mo_due_5_10 v1 σ qv1 | exact dr_Mo_due_5_10 _ σ (vin_dec (by decide))
theorem dr_Mo_due_47_11 (σ : nS) : vp_in (s_Mo_due_47_11 σ) 16 := by
  unfold s_Mo_due_47_11
  repeat' split
  all_goals first | exact vin_dec (by decide) | exact dr_Mo_due_49_11 σ | exact dr_Mo_due_49_11 v1 σ qv1 | exact dr_Mo_due_49_11 _ σ (vin_dec (by decide))
theorem dr_Mo_due_5_11 (v1 : Int32) (σ : nS) (qv1 : vp_in v1 16) : vp_in (s_Mo_due_5_11 v1 σ) 16 := by
  unfold s_Mo_due_5_11
  repeat' split
  all_goals first | exact vin_dec (by decide) | exact qv1 | exact dr_Mo_due_49_11 σ | exact dr_Mo_due_49_11 v1 σ qv1 | exact dr_Mo_due_49_11 _ σ (vin_dec (by decide)) | exact dr_Mo_due_47_11 σ | exact dr_Mo_due_47_11 v1 σ qv1 | exact dr_Mo_due_47_11 _ σ (vin_dec (by decide))
theorem dr_Mo_due_49_12 (v1 : Int32) (σ : nS) (qv1 : vp_in v1 16) : vp_in (s_Mo_due_49_12 v1 σ) 16 := by
  unfold s_Mo_due_49_12
  repeat' split
  all_goals first | exact vin_dec (by decide) | exact qv1 | exact dr_Mo_due_5_11 σ | exact dr_Mo_due_5_11 v1 σ qv1 | exact dr_Mo_due_5_11 _ σ (vin_dec (by decide))
theorem dr_Mo_due_47_12 (σ : nS) : vp_in (s_Mo_due_47_12 σ) 16 := by
  unfold s_Mo_due_47_12
  repeat' split
  all_goals first | exact vin_dec (by decide) | exact dr_Mo_due_49_12 σ | exact dr_Mo_due_49_12 v1 σ qv1 | exact dr_Mo_due_49_12 _ σ (vin_dec (by decide))
theorem dr_Mo_due_5_12 (v1 : Int32) (σ : nS) (qv1 : vp_in v1 16) : vp_in (s_Mo_due_5_12 v1 σ) 16 := by
  unfold s_Mo_due_5_12
  repeat' split
  all_goals first | exact vin_dec (by decide) | exact qv1 | exact dr_Mo_due_49_12 σ | exact dr_Mo_due_49_12 v1 σ qv1 | exact dr_Mo_due_49_12 _ σ (vin_dec (by decide)) | exact dr_Mo_due_47_12 σ | exact dr_Mo_due_47_12 v1 σ qv1 | exact dr_Mo_due_47_12 _ σ (vin_dec (by decide))
theorem dr_Mo_due_49_13 (v1 : Int32) (σ : nS) (qv1 : vp_in v1 16) : vp_in (s_Mo_due_49_13 v1 σ) 16 := by
  unfold s_Mo_due_49_13
  repeat' split
  all_goals first | exact vin_dec (by decide) | exact qv1 | exact dr_Mo_due_5_12 σ | exact dr_Mo_due_5_12 v1 σ qv1 | exact dr_Mo_due_5_12 _ σ (vin_dec (by decide))
theorem dr_Mo_due_47_13 (σ : nS) : vp_in (s_Mo_due_47_13 σ) 16 := by
  unfold s_Mo_due_47_13
  repeat' split
  all_goals first | exact vin_dec (by decide) | exact dr_Mo_due_49_13 σ | exact dr_Mo_due_49_13 v1 σ qv1 | exact dr_Mo_due_49_13 _ σ (vin_dec (by decide))
theorem dr_Mo_due_5_13 (v1 : Int32) (σ : nS) (qv1 : vp_in v1 16) : vp_in (s_Mo_due_5_13 v1 σ) 16 := by
  unfold s_Mo_due_5_13
  repeat' split
  all_goals first | exact vin_dec (by decide) | exact qv1 | exact dr_Mo_due_49_13 σ | exact dr_Mo_due_49_13 v1 σ qv1 | exact dr_Mo_due_49_13 _ σ (vin_dec (by decide)) | exact dr_Mo_due_47_13 σ | exact dr_Mo_due_47_13 v1 σ qv1 | exact dr_Mo_due_47_13 _ σ (vin_dec (by decide))
theorem dr_Mo_due_49_14 (v1 : Int32) (σ : nS) (qv1 : vp_in v1 16) : vp_in (s_Mo_due_49_14 v1 σ) 16 := by
  unfold s_Mo_due_49_14
  repeat' split
  all_goals first | exact vin_dec (by decide) | exact qv1 | exact dr_Mo_due_5_13 σ | exact dr_Mo_due_5_13 v1 σ qv1 | exact dr_Mo_due_5_13 _ σ (vin_dec (by decide))
theorem dr_Mo_due_47_14 (σ : nS) : vp_in (s_Mo_due_47_14 σ) 16 := by
  unfold s_Mo_due_47_14
  repeat' split
  all_goals first | exact vin_dec (by decide) | exact dr_Mo_due_49_14 σ | exact dr_Mo_due_49_14 v1 σ qv1 | exact dr_Mo_due_49_14 _ σ (vin_dec (by decide))
theorem dr_Mo_due_5_14 (v1 : Int32) (σ : nS) (qv1 : vp_in v1 16) : vp_in (s_Mo_due_5_14 v1 σ) 16 := by
  unfold s_Mo_due_5_14
  repeat' split
  all_goals first | exact vin_dec (by decide) | exact qv1 | exact dr_Mo_due_49_14 σ | exact dr_Mo_due_49_14 v1 σ qv1 | exact dr_Mo_due_49_14 _ σ (vin_dec (by decide)) | exact dr_Mo_due_47_14 σ | exact dr_Mo_due_47_14 v1 σ qv1 | exact dr_Mo_due_47_14 _ σ (vin_dec (by decide))
theorem dr_Mo_due_49_15 (v1 : Int32) (σ : nS) (qv1 : vp_in v1 16) : vp_in (s_Mo_due_49_15 v1 σ) 16 := by
  unfold s_Mo_due_49_15
  repeat' split
  all_goals first | exact vin_dec (by decide) | exact qv1 | exact dr_Mo_due_5_14 σ | exact dr_Mo_due_5_14 v1 σ qv1 | exact dr_Mo_due_5_14 _ σ (vin_dec (by decide))
theorem dr_Mo_due_47_15 (σ : nS) : vp_in (s_Mo_due_47_15 σ) 16 := by
  unfold s_Mo_due_47_15
  repeat' split
  all_goals first | exact vin_dec (by decide) | exact dr_Mo_due_49_15 σ | exact dr_Mo_due_49_15 v1 σ qv1 | exact dr_Mo_due_49_15 _ σ (vin_dec (by decide))
theorem dr_Mo_due_5_15 (σ : nS) : vp_in (s_Mo_due_5_15 σ) 16 := by
  unfold s_Mo_due_5_15
  repeat' split
  all_goals first | exact vin_dec (by decide) | exact dr_Mo_due_49_15 σ | exact dr_Mo_due_49_15 v1 σ qv1 | exact dr_Mo_due_49_15 _ σ (vin_dec (by decide)) | exact dr_Mo_due_47_15 σ | exact dr_Mo_due_47_15 v1 σ qv1 | exact dr_Mo_due_47_15 _ σ (vin_dec (by decide))
theorem dr_Mo_due (σ : nS) : vp_in (s_Mo_due σ) 16 := by
  unfold s_Mo_due
  repeat' split
  all_goals first | exact vin_dec (by decide) | exact dr_Mo_due_5_15 σ | exact dr_Mo_due_5_15 v1 σ qv1 | exact dr_Mo_due_5_15 _ σ (vin_dec (by decide))
theorem due_in (σ : nS) : vp_in (s_Ex_due σ) 16 := dr_Ex_due σ
theorem mdue_in (σ : nS) : vp_in (s_Mo_due σ) 16 := dr_Mo_due σ
theorem vin_nI {n k : Nat} {x : Int32} (hx : x = nI n) (h : n < k) (hk : k < 2 ^ 31) : vp_in x k := by subst hx; exact vp_in_nI h hk
theorem cp_hi (x : Int32) : ∃ n : Nat, n ≤ 1 ∧ (x &&& 8) = nI (8 * n) := by
  by_cases h : x.toBitVec.getLsbD 3 = true
  · refine ⟨1, Nat.le_refl _, ?_⟩
    apply Int32.toBitVec_inj.mp
    apply BitVec.eq_of_getLsbD_eq
    intro i hi
    have : i < 32 := hi
    have hall : ∀ j : Nat, j < 32 → ((8 : Int32).toBitVec.getLsbD j = true ↔ j = 3) := by decide
    have h8 : (nI (8 * 1)).toBitVec = (8 : Int32).toBitVec := by decide
    rw [h8, Int32.toBitVec_and, BitVec.getLsbD_and]
    by_cases hi3 : i = 3
    · subst hi3; rw [h]; rfl
    · have : (8 : Int32).toBitVec.getLsbD i = false := by
        cases hb : (8 : Int32).toBitVec.getLsbD i with
        | false => rfl
        | true => exact absurd ((hall i this).mp hb) hi3
      rw [this, Bool.and_false]
  · refine ⟨0, by decide, ?_⟩
    apply Int32.toBitVec_inj.mp
    apply BitVec.eq_of_getLsbD_eq
    intro i hi
    have : i < 32 := hi
    have hall : ∀ j : Nat, j < 32 → ((8 : Int32).toBitVec.getLsbD j = true ↔ j = 3) := by decide
    have h8 : (nI (8 * 0)).toBitVec = (0 : Int32).toBitVec := by decide
    rw [h8, Int32.toBitVec_and, BitVec.getLsbD_and]
    by_cases hi3 : i = 3
    · subst hi3
      have : x.toBitVec.getLsbD 3 = false := by cases hb : x.toBitVec.getLsbD 3 with
        | false => rfl
        | true => exact absurd hb h
      rw [this]; rfl
    · have : (8 : Int32).toBitVec.getLsbD i = false := by
        cases hb : (8 : Int32).toBitVec.getLsbD i with
        | false => rfl
        | true => exact absurd ((hall i this).mp hb) hi3
      rw [this, Bool.and_false]
      simp
theorem vin_cp (x : Int32) : vp_in (((x >>> ((4 : Int32) &&& 31)) &&& (8 : Int32)) + (x &&& (7 : Int32))) 16 := by
  obtain ⟨n, hn, e1⟩ := cp_hi (x >>> ((4 : Int32) &&& 31))
  obtain ⟨j, hj, e2⟩ := pk_andE x (m := 7) 3 (by decide)
  rw [e1, e2, nI_add]
  exact vp_in_nI (by omega) (by decide)
theorem or_87 : ∀ n, n < 2 → ∀ j, j < 8 → nI (8 * n) ||| nI j = nI (8 * n + j) := by decide
theorem vin_mh (x : Int32) : vp_in (((x >>> ((4 : Int32) &&& 31)) &&& (8 : Int32)) ||| (x &&& (7 : Int32))) 16 := by
  obtain ⟨n, hn, e1⟩ := cp_hi (x >>> ((4 : Int32) &&& 31))
  obtain ⟨j, hj, e2⟩ := pk_andE x (m := 7) 3 (by decide)
  rw [e1, e2, or_87 n (by omega) j (by omega)]
  exact vp_in_nI (by omega) (by decide)
