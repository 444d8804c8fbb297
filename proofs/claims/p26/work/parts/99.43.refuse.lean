/-! the law's refusals: each call throws what the document says, and leaves all as it was -/
theorem lg_same (x : Int64) : lg_cmp x x = 0 := by
  unfold lg_cmp
  simp
abbrev rmRA : Room := { frames := 9, cells := 30, slots := 180, locals := 190 }
theorem rx_write_m1_9 (m : gM) : ox_h_write m (-1 : Int32) (9 : Int32) ∧ fx_h_write m (-1 : Int32) (9 : Int32) = "java/lang/IndexOutOfBoundsException" := by
  have a0 : f_h_isIn (-1 : Int32) (40 : Int32) = 0 := by decide
  refine ⟨?_, ?_⟩
  · unfold ox_h_write
    exact ⟨o_isIn _ _, by rw [if_pos a0]; exact trivial⟩
  · unfold fx_h_write
    rw [if_pos a0]
theorem rx_write_0_m1 (m : gM) : ox_h_write m (0 : Int32) (-1 : Int32) ∧ fx_h_write m (0 : Int32) (-1 : Int32) = "java/lang/IllegalArgumentException" := by
  have a0 : ¬ f_h_isIn (0 : Int32) (40 : Int32) = 0 := by decide
  have a1 : f_h_isIn (-1 : Int32) (4 : Int32) = 0 := by decide
  refine ⟨?_, ?_⟩
  · unfold ox_h_write
    exact ⟨o_isIn _ _, by rw [if_neg a0]; exact ⟨o_isIn _ _, by rw [if_pos a1]; exact trivial⟩⟩
  · unfold fx_h_write
    rw [if_neg a0, if_pos a1]
theorem rx_writeRow_m1_99_9 (m : gM) : ox_h_writeRow m (-1 : Int32) (99 : Int32) (9 : Int32) ∧ fx_h_writeRow m (-1 : Int32) (99 : Int32) (9 : Int32) = "java/lang/IndexOutOfBoundsException" := by
  have a0 : f_h_isIn (-1 : Int32) (40 : Int32) = 0 := by decide
  refine ⟨?_, ?_⟩
  · unfold ox_h_writeRow
    exact ⟨o_isIn _ _, by rw [if_pos a0]; exact trivial⟩
  · unfold fx_h_writeRow
    rw [if_pos a0]
theorem rx_writeRow_0_0_0 (m : gM) : ox_h_writeRow m (0 : Int32) (0 : Int32) (0 : Int32) ∧ fx_h_writeRow m (0 : Int32) (0 : Int32) (0 : Int32) = "java/lang/IllegalArgumentException" := by
  have a0 : ¬ f_h_isIn (0 : Int32) (40 : Int32) = 0 := by decide
  have a1 : (0 : Int32) < (1 : Int32) := by decide
  refine ⟨?_, ?_⟩
  · unfold ox_h_writeRow
    exact ⟨o_isIn _ _, by rw [if_neg a0]; exact (by rw [if_pos a1]; exact trivial)⟩
  · unfold fx_h_writeRow
    rw [if_neg a0, if_pos a1]
theorem rx_writeRow_39_2_0 (m : gM) : ox_h_writeRow m (39 : Int32) (2 : Int32) (0 : Int32) ∧ fx_h_writeRow m (39 : Int32) (2 : Int32) (0 : Int32) = "java/lang/IllegalArgumentException" := by
  have a0 : ¬ f_h_isIn (39 : Int32) (40 : Int32) = 0 := by decide
  have a1 : ¬ (2 : Int32) < (1 : Int32) := by decide
  have a2 : ¬ (2 : Int32) ≤ ((40 : Int32) - (39 : Int32)) := by decide
  refine ⟨?_, ?_⟩
  · unfold ox_h_writeRow
    exact ⟨o_isIn _ _, by rw [if_neg a0]; exact (by rw [if_neg a1]; exact (by rw [if_neg a2]; exact trivial))⟩
  · unfold fx_h_writeRow
    rw [if_neg a0, if_neg a1, if_neg a2]
theorem rx_writeRow_3_2_m1 (m : gM) : ox_h_writeRow m (3 : Int32) (2 : Int32) (-1 : Int32) ∧ fx_h_writeRow m (3 : Int32) (2 : Int32) (-1 : Int32) = "java/lang/IllegalArgumentException" := by
  have a0 : ¬ f_h_isIn (3 : Int32) (40 : Int32) = 0 := by decide
  have a1 : ¬ (2 : Int32) < (1 : Int32) := by decide
  have a2 : (2 : Int32) ≤ ((40 : Int32) - (3 : Int32)) := by decide
  have a3 : f_h_isIn (-1 : Int32) (4 : Int32) = 0 := by decide
  refine ⟨?_, ?_⟩
  · unfold ox_h_writeRow
    exact ⟨o_isIn _ _, by rw [if_neg a0]; exact (by rw [if_neg a1]; exact (by rw [if_pos a2]; exact ⟨o_isIn _ _, by rw [if_pos a3]; exact trivial⟩))⟩
  · unfold fx_h_writeRow
    rw [if_neg a0, if_neg a1, if_pos a2, if_pos a3]
theorem rx_trim_m1 (m : gM) : ox_h_trim m (-1 : Int32) ∧ fx_h_trim m (-1 : Int32) = "java/lang/IndexOutOfBoundsException" := by
  have a0 : f_h_isIn (-1 : Int32) (40 : Int32) = 0 := by decide
  refine ⟨?_, ?_⟩
  · unfold ox_h_trim
    exact ⟨o_isIn _ _, by rw [if_pos a0]; exact trivial⟩
  · unfold fx_h_trim
    rw [if_pos a0]
theorem rx_hint_m1_9 (m : gM) : ox_h_hint m (-1 : Int32) (9 : Int32) ∧ fx_h_hint m (-1 : Int32) (9 : Int32) = "java/lang/IndexOutOfBoundsException" := by
  have a0 : f_h_isIn (-1 : Int32) (40 : Int32) = 0 := by decide
  refine ⟨?_, ?_⟩
  · unfold ox_h_hint
    exact ⟨o_isIn _ _, by rw [if_pos a0]; exact trivial⟩
  · unfold fx_h_hint
    rw [if_pos a0]
theorem rx_hint_0_m1 (m : gM) : ox_h_hint m (0 : Int32) (-1 : Int32) ∧ fx_h_hint m (0 : Int32) (-1 : Int32) = "java/lang/IllegalArgumentException" := by
  have a0 : ¬ f_h_isIn (0 : Int32) (40 : Int32) = 0 := by decide
  have a1 : f_h_isIn (-1 : Int32) (4 : Int32) = 0 := by decide
  refine ⟨?_, ?_⟩
  · unfold ox_h_hint
    exact ⟨o_isIn _ _, by rw [if_neg a0]; exact ⟨o_isIn _ _, by rw [if_pos a1]; exact trivial⟩⟩
  · unfold fx_h_hint
    rw [if_neg a0, if_pos a1]
theorem rx_collect_m1 (m : gM) : ox_h_collect m (-1 : Int32) ∧ fx_h_collect m (-1 : Int32) = "java/lang/IndexOutOfBoundsException" := by
  have a0 : f_h_isIn (-1 : Int32) (12 : Int32) = 0 := by decide
  refine ⟨?_, ?_⟩
  · unfold ox_h_collect
    exact ⟨o_isIn _ _, by rw [if_pos a0]; exact trivial⟩
  · unfold fx_h_collect
    rw [if_pos a0]
theorem rx_tidy_0 (m : gM) : ox_h_tidy m (0 : Int32) ∧ fx_h_tidy m (0 : Int32) = "java/lang/IllegalArgumentException" := by
  have a0 : (0 : Int32) < (1 : Int32) := by decide
  refine ⟨?_, ?_⟩
  · unfold ox_h_tidy
    exact (by rw [if_pos a0]; exact trivial)
  · unfold fx_h_tidy
    rw [if_pos a0]
theorem rx_set_m1_9 (m : gM) : ox_h_set m (-1 : Int32) (9 : Int32) ∧ fx_h_set m (-1 : Int32) (9 : Int32) = "java/lang/IndexOutOfBoundsException" := by
  have a0 : f_h_isIn (-1 : Int32) (2 : Int32) = 0 := by decide
  refine ⟨?_, ?_⟩
  · unfold ox_h_set
    exact ⟨o_isIn _ _, by rw [if_pos a0]; exact trivial⟩
  · unfold fx_h_set
    rw [if_pos a0]
theorem rx_set_0_m1 (m : gM) : ox_h_set m (0 : Int32) (-1 : Int32) ∧ fx_h_set m (0 : Int32) (-1 : Int32) = "java/lang/IllegalArgumentException" := by
  have a0 : ¬ f_h_isIn (0 : Int32) (2 : Int32) = 0 := by decide
  have a1 : f_h_isSettingValue (0 : Int32) (-1 : Int32) = 0 := by decide
  refine ⟨?_, ?_⟩
  · unfold ox_h_set
    exact ⟨o_isIn _ _, by rw [if_neg a0]; exact ⟨(by unfold o_h_isSettingValue; (repeat' split) <;> first | exact o_isIn _ _ | exact ⟨o_isIn _ _, isIn01 _ _, trivial⟩ | trivial), by rw [if_pos a1]; exact trivial⟩⟩
  · unfold fx_h_set
    rw [if_neg a0, if_pos a1]
theorem rx_set_1_1 (m : gM) : ox_h_set m (1 : Int32) (1 : Int32) ∧ fx_h_set m (1 : Int32) (1 : Int32) = "java/lang/IllegalArgumentException" := by
  have a0 : ¬ f_h_isIn (1 : Int32) (2 : Int32) = 0 := by decide
  have a1 : f_h_isSettingValue (1 : Int32) (1 : Int32) = 0 := by decide
  refine ⟨?_, ?_⟩
  · unfold ox_h_set
    exact ⟨o_isIn _ _, by rw [if_neg a0]; exact ⟨(by unfold o_h_isSettingValue; (repeat' split) <;> first | exact o_isIn _ _ | exact ⟨o_isIn _ _, isIn01 _ _, trivial⟩ | trivial), by rw [if_pos a1]; exact trivial⟩⟩
  · unfold fx_h_set
    rw [if_neg a0, if_pos a1]
theorem rx_append_32 (m : gM) : ox_h_append m (32 : Int32) ∧ fx_h_append m (32 : Int32) = "java/lang/IllegalArgumentException" := by
  have a0 : (32 : Int32) < (33 : Int32) := by decide
  refine ⟨?_, ?_⟩
  · unfold ox_h_append
    exact (by rw [if_pos a0]; exact trivial)
  · unfold fx_h_append
    rw [if_pos a0]
theorem rx_page_m1_9 (m : gM) : ox_h_page m (-1 : Int32) (9 : Int32) ∧ fx_h_page m (-1 : Int32) (9 : Int32) = "java/lang/IndexOutOfBoundsException" := by
  have a0 : f_h_isIn (-1 : Int32) (40 : Int32) = 0 := by decide
  refine ⟨?_, ?_⟩
  · unfold ox_h_page
    exact ⟨o_isIn _ _, by rw [if_pos a0]; exact trivial⟩
  · unfold fx_h_page
    rw [if_pos a0]
theorem rx_page_0_m1 (m : gM) : ox_h_page m (0 : Int32) (-1 : Int32) ∧ fx_h_page m (0 : Int32) (-1 : Int32) = "java/lang/IllegalArgumentException" := by
  have a0 : ¬ f_h_isIn (0 : Int32) (40 : Int32) = 0 := by decide
  have a1 : f_h_isIn (-1 : Int32) (6 : Int32) = 0 := by decide
  refine ⟨?_, ?_⟩
  · unfold ox_h_page
    exact ⟨o_isIn _ _, by rw [if_neg a0]; exact ⟨o_isIn _ _, by rw [if_pos a1]; exact trivial⟩⟩
  · unfold fx_h_page
    rw [if_neg a0, if_pos a1]
theorem rx_block_m1_9 (m : gM) : ox_h_block m (-1 : Int32) (9 : Int32) ∧ fx_h_block m (-1 : Int32) (9 : Int32) = "java/lang/IndexOutOfBoundsException" := by
  have a0 : f_h_isIn (-1 : Int32) (12 : Int32) = 0 := by decide
  refine ⟨?_, ?_⟩
  · unfold ox_h_block
    exact ⟨o_isIn _ _, by rw [if_pos a0]; exact trivial⟩
  · unfold fx_h_block
    rw [if_pos a0]
theorem rx_block_0_m1 (m : gM) : ox_h_block m (0 : Int32) (-1 : Int32) ∧ fx_h_block m (0 : Int32) (-1 : Int32) = "java/lang/IllegalArgumentException" := by
  have a0 : ¬ f_h_isIn (0 : Int32) (12 : Int32) = 0 := by decide
  have a1 : f_h_isIn (-1 : Int32) (8 : Int32) = 0 := by decide
  refine ⟨?_, ?_⟩
  · unfold ox_h_block
    exact ⟨o_isIn _ _, by rw [if_neg a0]; exact ⟨o_isIn _ _, by rw [if_pos a1]; exact trivial⟩⟩
  · unfold fx_h_block
    rw [if_neg a0, if_pos a1]
theorem rx_slot_m1_0_1 (m : gM) : ox_h_slot m (-1 : Int32) (0 : Int32) (1 : Int32) ∧ fx_h_slot m (-1 : Int32) (0 : Int32) (1 : Int32) = "java/lang/IndexOutOfBoundsException" := by
  have a0 : f_h_isIn (-1 : Int32) (12 : Int32) = 0 := by decide
  refine ⟨?_, ?_⟩
  · unfold ox_h_slot
    exact ⟨o_isIn _ _, by rw [if_pos a0]; exact trivial⟩
  · unfold fx_h_slot
    rw [if_pos a0]
theorem rx_slot_0_m1_0 (m : gM) : ox_h_slot m (0 : Int32) (-1 : Int32) (0 : Int32) ∧ fx_h_slot m (0 : Int32) (-1 : Int32) (0 : Int32) = "java/lang/IndexOutOfBoundsException" := by
  have a0 : ¬ f_h_isIn (0 : Int32) (12 : Int32) = 0 := by decide
  have a1 : f_h_isIn (-1 : Int32) (8 : Int32) = 0 := by decide
  refine ⟨?_, ?_⟩
  · unfold ox_h_slot
    exact ⟨o_isIn _ _, by rw [if_neg a0]; exact ⟨o_isIn _ _, by rw [if_pos a1]; exact trivial⟩⟩
  · unfold fx_h_slot
    rw [if_neg a0, if_pos a1]
theorem rx_stream_m1_9 (m : gM) : ox_h_stream m (-1 : Int32) (9 : Int32) ∧ fx_h_stream m (-1 : Int32) (9 : Int32) = "java/lang/IndexOutOfBoundsException" := by
  have a0 : f_h_isIn (-1 : Int32) (5 : Int32) = 0 := by decide
  refine ⟨?_, ?_⟩
  · unfold ox_h_stream
    exact ⟨o_isIn _ _, by rw [if_pos a0]; exact trivial⟩
  · unfold fx_h_stream
    rw [if_pos a0]
theorem rx_stream_0_m1 (m : gM) : ox_h_stream m (0 : Int32) (-1 : Int32) ∧ fx_h_stream m (0 : Int32) (-1 : Int32) = "java/lang/IllegalArgumentException" := by
  have a0 : ¬ f_h_isIn (0 : Int32) (5 : Int32) = 0 := by decide
  have a1 : f_h_isIn (-1 : Int32) (5 : Int32) = 0 := by decide
  refine ⟨?_, ?_⟩
  · unfold ox_h_stream
    exact ⟨o_isIn _ _, by rw [if_neg a0]; exact ⟨o_isIn _ _, by rw [if_pos a1]; exact trivial⟩⟩
  · unfold fx_h_stream
    rw [if_neg a0, if_pos a1]
theorem rx_count_m1 (m : gM) : ox_h_count m (-1 : Int32) ∧ fx_h_count m (-1 : Int32) = "java/lang/IllegalArgumentException" := by
  have a0 : f_h_isIn (-1 : Int32) (12 : Int32) = 0 := by decide
  refine ⟨?_, ?_⟩
  · unfold ox_h_count
    exact ⟨o_isIn _ _, by rw [if_pos a0]; exact trivial⟩
  · unfold fx_h_count
    rw [if_pos a0]
theorem rx_setting_m1 (m : gM) : ox_h_setting m (-1 : Int32) ∧ fx_h_setting m (-1 : Int32) = "java/lang/IndexOutOfBoundsException" := by
  have a0 : f_h_isIn (-1 : Int32) (2 : Int32) = 0 := by decide
  refine ⟨?_, ?_⟩
  · unfold ox_h_setting
    exact ⟨o_isIn _ _, by rw [if_pos a0]; exact trivial⟩
  · unfold fx_h_setting
    rw [if_pos a0]
theorem rx_ifWritten_m1_9_9 (m : gM) : ox_h_ifWritten m (-1 : Int32) (9 : Int32) (9 : Int32) ∧ fx_h_ifWritten m (-1 : Int32) (9 : Int32) (9 : Int32) = "java/lang/IndexOutOfBoundsException" := by
  have a0 : f_h_isIn (-1 : Int32) (40 : Int32) = 0 := by decide
  refine ⟨?_, ?_⟩
  · unfold ox_h_ifWritten
    exact ⟨o_isIn _ _, by rw [if_pos a0]; exact trivial⟩
  · unfold fx_h_ifWritten
    rw [if_pos a0]
theorem rx_ifWritten_0_m1_0 (m : gM) : ox_h_ifWritten m (0 : Int32) (-1 : Int32) (0 : Int32) ∧ fx_h_ifWritten m (0 : Int32) (-1 : Int32) (0 : Int32) = "java/lang/IllegalArgumentException" := by
  have a0 : ¬ f_h_isIn (0 : Int32) (40 : Int32) = 0 := by decide
  have a1 : f_h_isIn (-1 : Int32) (4 : Int32) = 0 := by decide
  refine ⟨?_, ?_⟩
  · unfold ox_h_ifWritten
    exact ⟨o_isIn _ _, by rw [if_neg a0]; exact ⟨o_isIn _ _, by rw [if_pos a1]; exact trivial⟩⟩
  · unfold fx_h_ifWritten
    rw [if_neg a0, if_pos a1]
theorem rx_ifWritten_0_0_m1 (m : gM) : ox_h_ifWritten m (0 : Int32) (0 : Int32) (-1 : Int32) ∧ fx_h_ifWritten m (0 : Int32) (0 : Int32) (-1 : Int32) = "java/lang/IllegalArgumentException" := by
  have a0 : ¬ f_h_isIn (0 : Int32) (40 : Int32) = 0 := by decide
  have a1 : ¬ f_h_isIn (0 : Int32) (4 : Int32) = 0 := by decide
  have a2 : f_h_isIn (-1 : Int32) (3 : Int32) = 0 := by decide
  refine ⟨?_, ?_⟩
  · unfold ox_h_ifWritten
    exact ⟨o_isIn _ _, by rw [if_neg a0]; exact ⟨o_isIn _ _, by rw [if_neg a1]; exact ⟨o_isIn _ _, by rw [if_pos a2]; exact trivial⟩⟩⟩
  · unfold fx_h_ifWritten
    rw [if_neg a0, if_neg a1, if_pos a2]
theorem rx_ifRewritten_0 (m : gM) : ox_h_ifRewritten m (0 : Int32) ∧ fx_h_ifRewritten m (0 : Int32) = "java/lang/IllegalArgumentException" := by
  have a0 : (0 : Int32) < (1 : Int32) := by decide
  refine ⟨?_, ?_⟩
  · unfold ox_h_ifRewritten
    exact (by rw [if_pos a0]; exact trivial)
  · unfold fx_h_ifRewritten
    rw [if_pos a0]
theorem rx_bestRule_0 (m : gM) : ox_h_bestRule m (0 : Int32) ∧ fx_h_bestRule m (0 : Int32) = "java/lang/IllegalArgumentException" := by
  have a0 : (0 : Int32) < (1 : Int32) := by decide
  refine ⟨?_, ?_⟩
  · unfold ox_h_bestRule
    exact (by rw [if_pos a0]; exact trivial)
  · unfold fx_h_bestRule
    rw [if_pos a0]
theorem rx_write_40_9 (m : gM) : ox_h_write m (40 : Int32) (9 : Int32) ∧ fx_h_write m (40 : Int32) (9 : Int32) = "java/lang/IndexOutOfBoundsException" := by
  have a0 : f_h_isIn (40 : Int32) (40 : Int32) = 0 := by decide
  refine ⟨?_, ?_⟩
  · unfold ox_h_write
    exact ⟨o_isIn _ _, by rw [if_pos a0]; exact trivial⟩
  · unfold fx_h_write
    rw [if_pos a0]
theorem rx_write_0_4 (m : gM) : ox_h_write m (0 : Int32) (4 : Int32) ∧ fx_h_write m (0 : Int32) (4 : Int32) = "java/lang/IllegalArgumentException" := by
  have a0 : ¬ f_h_isIn (0 : Int32) (40 : Int32) = 0 := by decide
  have a1 : f_h_isIn (4 : Int32) (4 : Int32) = 0 := by decide
  refine ⟨?_, ?_⟩
  · unfold ox_h_write
    exact ⟨o_isIn _ _, by rw [if_neg a0]; exact ⟨o_isIn _ _, by rw [if_pos a1]; exact trivial⟩⟩
  · unfold fx_h_write
    rw [if_neg a0, if_pos a1]
theorem rx_writeRow_40_99_9 (m : gM) : ox_h_writeRow m (40 : Int32) (99 : Int32) (9 : Int32) ∧ fx_h_writeRow m (40 : Int32) (99 : Int32) (9 : Int32) = "java/lang/IndexOutOfBoundsException" := by
  have a0 : f_h_isIn (40 : Int32) (40 : Int32) = 0 := by decide
  refine ⟨?_, ?_⟩
  · unfold ox_h_writeRow
    exact ⟨o_isIn _ _, by rw [if_pos a0]; exact trivial⟩
  · unfold fx_h_writeRow
    rw [if_pos a0]
theorem rx_writeRow_0_41_0 (m : gM) : ox_h_writeRow m (0 : Int32) (41 : Int32) (0 : Int32) ∧ fx_h_writeRow m (0 : Int32) (41 : Int32) (0 : Int32) = "java/lang/IllegalArgumentException" := by
  have a0 : ¬ f_h_isIn (0 : Int32) (40 : Int32) = 0 := by decide
  have a1 : ¬ (41 : Int32) < (1 : Int32) := by decide
  have a2 : ¬ (41 : Int32) ≤ ((40 : Int32) - (0 : Int32)) := by decide
  refine ⟨?_, ?_⟩
  · unfold ox_h_writeRow
    exact ⟨o_isIn _ _, by rw [if_neg a0]; exact (by rw [if_neg a1]; exact (by rw [if_neg a2]; exact trivial))⟩
  · unfold fx_h_writeRow
    rw [if_neg a0, if_neg a1, if_neg a2]
theorem rx_writeRow_3_2_4 (m : gM) : ox_h_writeRow m (3 : Int32) (2 : Int32) (4 : Int32) ∧ fx_h_writeRow m (3 : Int32) (2 : Int32) (4 : Int32) = "java/lang/IllegalArgumentException" := by
  have a0 : ¬ f_h_isIn (3 : Int32) (40 : Int32) = 0 := by decide
  have a1 : ¬ (2 : Int32) < (1 : Int32) := by decide
  have a2 : (2 : Int32) ≤ ((40 : Int32) - (3 : Int32)) := by decide
  have a3 : f_h_isIn (4 : Int32) (4 : Int32) = 0 := by decide
  refine ⟨?_, ?_⟩
  · unfold ox_h_writeRow
    exact ⟨o_isIn _ _, by rw [if_neg a0]; exact (by rw [if_neg a1]; exact (by rw [if_pos a2]; exact ⟨o_isIn _ _, by rw [if_pos a3]; exact trivial⟩))⟩
  · unfold fx_h_writeRow
    rw [if_neg a0, if_neg a1, if_pos a2, if_pos a3]
theorem rx_trim_40 (m : gM) : ox_h_trim m (40 : Int32) ∧ fx_h_trim m (40 : Int32) = "java/lang/IndexOutOfBoundsException" := by
  have a0 : f_h_isIn (40 : Int32) (40 : Int32) = 0 := by decide
  refine ⟨?_, ?_⟩
  · unfold ox_h_trim
    exact ⟨o_isIn _ _, by rw [if_pos a0]; exact trivial⟩
  · unfold fx_h_trim
    rw [if_pos a0]
theorem rx_hint_40_9 (m : gM) : ox_h_hint m (40 : Int32) (9 : Int32) ∧ fx_h_hint m (40 : Int32) (9 : Int32) = "java/lang/IndexOutOfBoundsException" := by
  have a0 : f_h_isIn (40 : Int32) (40 : Int32) = 0 := by decide
  refine ⟨?_, ?_⟩
  · unfold ox_h_hint
    exact ⟨o_isIn _ _, by rw [if_pos a0]; exact trivial⟩
  · unfold fx_h_hint
    rw [if_pos a0]
theorem rx_hint_0_4 (m : gM) : ox_h_hint m (0 : Int32) (4 : Int32) ∧ fx_h_hint m (0 : Int32) (4 : Int32) = "java/lang/IllegalArgumentException" := by
  have a0 : ¬ f_h_isIn (0 : Int32) (40 : Int32) = 0 := by decide
  have a1 : f_h_isIn (4 : Int32) (4 : Int32) = 0 := by decide
  refine ⟨?_, ?_⟩
  · unfold ox_h_hint
    exact ⟨o_isIn _ _, by rw [if_neg a0]; exact ⟨o_isIn _ _, by rw [if_pos a1]; exact trivial⟩⟩
  · unfold fx_h_hint
    rw [if_neg a0, if_pos a1]
theorem rx_collect_12 (m : gM) : ox_h_collect m (12 : Int32) ∧ fx_h_collect m (12 : Int32) = "java/lang/IndexOutOfBoundsException" := by
  have a0 : f_h_isIn (12 : Int32) (12 : Int32) = 0 := by decide
  refine ⟨?_, ?_⟩
  · unfold ox_h_collect
    exact ⟨o_isIn _ _, by rw [if_pos a0]; exact trivial⟩
  · unfold fx_h_collect
    rw [if_pos a0]
theorem rx_tidy_13 (m : gM) : ox_h_tidy m (13 : Int32) ∧ fx_h_tidy m (13 : Int32) = "java/lang/IllegalArgumentException" := by
  have a0 : ¬ (13 : Int32) < (1 : Int32) := by decide
  have a1 : ¬ (13 : Int32) ≤ (12 : Int32) := by decide
  refine ⟨?_, ?_⟩
  · unfold ox_h_tidy
    exact (by rw [if_neg a0]; exact (by rw [if_neg a1]; exact trivial))
  · unfold fx_h_tidy
    rw [if_neg a0, if_neg a1]
theorem rx_set_2_9 (m : gM) : ox_h_set m (2 : Int32) (9 : Int32) ∧ fx_h_set m (2 : Int32) (9 : Int32) = "java/lang/IndexOutOfBoundsException" := by
  have a0 : f_h_isIn (2 : Int32) (2 : Int32) = 0 := by decide
  refine ⟨?_, ?_⟩
  · unfold ox_h_set
    exact ⟨o_isIn _ _, by rw [if_pos a0]; exact trivial⟩
  · unfold fx_h_set
    rw [if_pos a0]
theorem rx_set_0_3 (m : gM) : ox_h_set m (0 : Int32) (3 : Int32) ∧ fx_h_set m (0 : Int32) (3 : Int32) = "java/lang/IllegalArgumentException" := by
  have a0 : ¬ f_h_isIn (0 : Int32) (2 : Int32) = 0 := by decide
  have a1 : f_h_isSettingValue (0 : Int32) (3 : Int32) = 0 := by decide
  refine ⟨?_, ?_⟩
  · unfold ox_h_set
    exact ⟨o_isIn _ _, by rw [if_neg a0]; exact ⟨(by unfold o_h_isSettingValue; (repeat' split) <;> first | exact o_isIn _ _ | exact ⟨o_isIn _ _, isIn01 _ _, trivial⟩ | trivial), by rw [if_pos a1]; exact trivial⟩⟩
  · unfold fx_h_set
    rw [if_neg a0, if_pos a1]
theorem rx_set_1_5 (m : gM) : ox_h_set m (1 : Int32) (5 : Int32) ∧ fx_h_set m (1 : Int32) (5 : Int32) = "java/lang/IllegalArgumentException" := by
  have a0 : ¬ f_h_isIn (1 : Int32) (2 : Int32) = 0 := by decide
  have a1 : f_h_isSettingValue (1 : Int32) (5 : Int32) = 0 := by decide
  refine ⟨?_, ?_⟩
  · unfold ox_h_set
    exact ⟨o_isIn _ _, by rw [if_neg a0]; exact ⟨(by unfold o_h_isSettingValue; (repeat' split) <;> first | exact o_isIn _ _ | exact ⟨o_isIn _ _, isIn01 _ _, trivial⟩ | trivial), by rw [if_pos a1]; exact trivial⟩⟩
  · unfold fx_h_set
    rw [if_neg a0, if_pos a1]
theorem rx_append_127 (m : gM) : ox_h_append m (127 : Int32) ∧ fx_h_append m (127 : Int32) = "java/lang/IllegalArgumentException" := by
  have a0 : ¬ (127 : Int32) < (33 : Int32) := by decide
  have a1 : ¬ (127 : Int32) ≤ (126 : Int32) := by decide
  refine ⟨?_, ?_⟩
  · unfold ox_h_append
    exact (by rw [if_neg a0]; exact (by rw [if_neg a1]; exact trivial))
  · unfold fx_h_append
    rw [if_neg a0, if_neg a1]
theorem rx_page_40_9 (m : gM) : ox_h_page m (40 : Int32) (9 : Int32) ∧ fx_h_page m (40 : Int32) (9 : Int32) = "java/lang/IndexOutOfBoundsException" := by
  have a0 : f_h_isIn (40 : Int32) (40 : Int32) = 0 := by decide
  refine ⟨?_, ?_⟩
  · unfold ox_h_page
    exact ⟨o_isIn _ _, by rw [if_pos a0]; exact trivial⟩
  · unfold fx_h_page
    rw [if_pos a0]
theorem rx_page_0_6 (m : gM) : ox_h_page m (0 : Int32) (6 : Int32) ∧ fx_h_page m (0 : Int32) (6 : Int32) = "java/lang/IllegalArgumentException" := by
  have a0 : ¬ f_h_isIn (0 : Int32) (40 : Int32) = 0 := by decide
  have a1 : f_h_isIn (6 : Int32) (6 : Int32) = 0 := by decide
  refine ⟨?_, ?_⟩
  · unfold ox_h_page
    exact ⟨o_isIn _ _, by rw [if_neg a0]; exact ⟨o_isIn _ _, by rw [if_pos a1]; exact trivial⟩⟩
  · unfold fx_h_page
    rw [if_neg a0, if_pos a1]
theorem rx_block_12_9 (m : gM) : ox_h_block m (12 : Int32) (9 : Int32) ∧ fx_h_block m (12 : Int32) (9 : Int32) = "java/lang/IndexOutOfBoundsException" := by
  have a0 : f_h_isIn (12 : Int32) (12 : Int32) = 0 := by decide
  refine ⟨?_, ?_⟩
  · unfold ox_h_block
    exact ⟨o_isIn _ _, by rw [if_pos a0]; exact trivial⟩
  · unfold fx_h_block
    rw [if_pos a0]
theorem rx_block_0_8 (m : gM) : ox_h_block m (0 : Int32) (8 : Int32) ∧ fx_h_block m (0 : Int32) (8 : Int32) = "java/lang/IllegalArgumentException" := by
  have a0 : ¬ f_h_isIn (0 : Int32) (12 : Int32) = 0 := by decide
  have a1 : f_h_isIn (8 : Int32) (8 : Int32) = 0 := by decide
  refine ⟨?_, ?_⟩
  · unfold ox_h_block
    exact ⟨o_isIn _ _, by rw [if_neg a0]; exact ⟨o_isIn _ _, by rw [if_pos a1]; exact trivial⟩⟩
  · unfold fx_h_block
    rw [if_neg a0, if_pos a1]
theorem rx_slot_12_0_1 (m : gM) : ox_h_slot m (12 : Int32) (0 : Int32) (1 : Int32) ∧ fx_h_slot m (12 : Int32) (0 : Int32) (1 : Int32) = "java/lang/IndexOutOfBoundsException" := by
  have a0 : f_h_isIn (12 : Int32) (12 : Int32) = 0 := by decide
  refine ⟨?_, ?_⟩
  · unfold ox_h_slot
    exact ⟨o_isIn _ _, by rw [if_pos a0]; exact trivial⟩
  · unfold fx_h_slot
    rw [if_pos a0]
theorem rx_slot_0_8_0 (m : gM) : ox_h_slot m (0 : Int32) (8 : Int32) (0 : Int32) ∧ fx_h_slot m (0 : Int32) (8 : Int32) (0 : Int32) = "java/lang/IndexOutOfBoundsException" := by
  have a0 : ¬ f_h_isIn (0 : Int32) (12 : Int32) = 0 := by decide
  have a1 : f_h_isIn (8 : Int32) (8 : Int32) = 0 := by decide
  refine ⟨?_, ?_⟩
  · unfold ox_h_slot
    exact ⟨o_isIn _ _, by rw [if_neg a0]; exact ⟨o_isIn _ _, by rw [if_pos a1]; exact trivial⟩⟩
  · unfold fx_h_slot
    rw [if_neg a0, if_pos a1]
theorem rx_stream_5_9 (m : gM) : ox_h_stream m (5 : Int32) (9 : Int32) ∧ fx_h_stream m (5 : Int32) (9 : Int32) = "java/lang/IndexOutOfBoundsException" := by
  have a0 : f_h_isIn (5 : Int32) (5 : Int32) = 0 := by decide
  refine ⟨?_, ?_⟩
  · unfold ox_h_stream
    exact ⟨o_isIn _ _, by rw [if_pos a0]; exact trivial⟩
  · unfold fx_h_stream
    rw [if_pos a0]
theorem rx_stream_0_5 (m : gM) : ox_h_stream m (0 : Int32) (5 : Int32) ∧ fx_h_stream m (0 : Int32) (5 : Int32) = "java/lang/IllegalArgumentException" := by
  have a0 : ¬ f_h_isIn (0 : Int32) (5 : Int32) = 0 := by decide
  have a1 : f_h_isIn (5 : Int32) (5 : Int32) = 0 := by decide
  refine ⟨?_, ?_⟩
  · unfold ox_h_stream
    exact ⟨o_isIn _ _, by rw [if_neg a0]; exact ⟨o_isIn _ _, by rw [if_pos a1]; exact trivial⟩⟩
  · unfold fx_h_stream
    rw [if_neg a0, if_pos a1]
theorem rx_count_12 (m : gM) : ox_h_count m (12 : Int32) ∧ fx_h_count m (12 : Int32) = "java/lang/IllegalArgumentException" := by
  have a0 : f_h_isIn (12 : Int32) (12 : Int32) = 0 := by decide
  refine ⟨?_, ?_⟩
  · unfold ox_h_count
    exact ⟨o_isIn _ _, by rw [if_pos a0]; exact trivial⟩
  · unfold fx_h_count
    rw [if_pos a0]
theorem rx_setting_2 (m : gM) : ox_h_setting m (2 : Int32) ∧ fx_h_setting m (2 : Int32) = "java/lang/IndexOutOfBoundsException" := by
  have a0 : f_h_isIn (2 : Int32) (2 : Int32) = 0 := by decide
  refine ⟨?_, ?_⟩
  · unfold ox_h_setting
    exact ⟨o_isIn _ _, by rw [if_pos a0]; exact trivial⟩
  · unfold fx_h_setting
    rw [if_pos a0]
theorem rx_ifWritten_40_9_9 (m : gM) : ox_h_ifWritten m (40 : Int32) (9 : Int32) (9 : Int32) ∧ fx_h_ifWritten m (40 : Int32) (9 : Int32) (9 : Int32) = "java/lang/IndexOutOfBoundsException" := by
  have a0 : f_h_isIn (40 : Int32) (40 : Int32) = 0 := by decide
  refine ⟨?_, ?_⟩
  · unfold ox_h_ifWritten
    exact ⟨o_isIn _ _, by rw [if_pos a0]; exact trivial⟩
  · unfold fx_h_ifWritten
    rw [if_pos a0]
theorem rx_ifWritten_0_4_0 (m : gM) : ox_h_ifWritten m (0 : Int32) (4 : Int32) (0 : Int32) ∧ fx_h_ifWritten m (0 : Int32) (4 : Int32) (0 : Int32) = "java/lang/IllegalArgumentException" := by
  have a0 : ¬ f_h_isIn (0 : Int32) (40 : Int32) = 0 := by decide
  have a1 : f_h_isIn (4 : Int32) (4 : Int32) = 0 := by decide
  refine ⟨?_, ?_⟩
  · unfold ox_h_ifWritten
    exact ⟨o_isIn _ _, by rw [if_neg a0]; exact ⟨o_isIn _ _, by rw [if_pos a1]; exact trivial⟩⟩
  · unfold fx_h_ifWritten
    rw [if_neg a0, if_pos a1]
theorem rx_ifWritten_0_0_3 (m : gM) : ox_h_ifWritten m (0 : Int32) (0 : Int32) (3 : Int32) ∧ fx_h_ifWritten m (0 : Int32) (0 : Int32) (3 : Int32) = "java/lang/IllegalArgumentException" := by
  have a0 : ¬ f_h_isIn (0 : Int32) (40 : Int32) = 0 := by decide
  have a1 : ¬ f_h_isIn (0 : Int32) (4 : Int32) = 0 := by decide
  have a2 : f_h_isIn (3 : Int32) (3 : Int32) = 0 := by decide
  refine ⟨?_, ?_⟩
  · unfold ox_h_ifWritten
    exact ⟨o_isIn _ _, by rw [if_neg a0]; exact ⟨o_isIn _ _, by rw [if_neg a1]; exact ⟨o_isIn _ _, by rw [if_pos a2]; exact trivial⟩⟩⟩
  · unfold fx_h_ifWritten
    rw [if_neg a0, if_neg a1, if_pos a2]
theorem rx_ifRewritten_10 (m : gM) : ox_h_ifRewritten m (10 : Int32) ∧ fx_h_ifRewritten m (10 : Int32) = "java/lang/IllegalArgumentException" := by
  have a0 : ¬ (10 : Int32) < (1 : Int32) := by decide
  have a1 : ¬ (10 : Int32) ≤ (9 : Int32) := by decide
  refine ⟨?_, ?_⟩
  · unfold ox_h_ifRewritten
    exact (by rw [if_neg a0]; exact (by rw [if_neg a1]; exact trivial))
  · unfold fx_h_ifRewritten
    rw [if_neg a0, if_neg a1]
theorem rx_bestRule_10 (m : gM) : ox_h_bestRule m (10 : Int32) ∧ fx_h_bestRule m (10 : Int32) = "java/lang/IllegalArgumentException" := by
  have a0 : ¬ (10 : Int32) < (1 : Int32) := by decide
  have a1 : ¬ (10 : Int32) ≤ (9 : Int32) := by decide
  refine ⟨?_, ?_⟩
  · unfold ox_h_bestRule
    exact (by rw [if_neg a0]; exact (by rw [if_neg a1]; exact trivial))
  · unfold fx_h_bestRule
    rw [if_neg a0, if_neg a1]
set_option maxRecDepth 100000 in
set_option maxHeartbeats 4000000 in
theorem c_l_refusesAny_1 (l : Launch) (hl9 : l.stackTraces = false) (G : gG) (q : Nat → Nat) (m : gM) (h : gN) : gMs l yL_refusesAny wsL_refusesAny rmRA G shH q m h [.ref (q 0), .int (1 : Int32)] m h 1 30 180 := by
  intro sz
  refine g_metz (cc := cL_refusesAny) (maxL := 5) (ret := (some .boolean)) (own := RL) (Qc := fun sz => gQi G shH q m h sz 1) (by decide) rfl rfl (Nat.le_of_ble_eq_true rfl) (fun p e s m9 below meth c C hq hX hr => ?_)
  refine x_lv (lv' := [(0, .ref (q 0)), (1, .int (1 : Int32))]) [0, 1] rfl ?_
  refine x_iload_n C dL_refusesAny_0 rfl 1 rfl ?_
  refine x_if_eq (tgt := 8) C dL_refusesAny_1 (by decide) (fun w => absurd w (by decide)) (fun _ => ?_)
  refine x_iconst (v := (-1 : Int32)) C dL_refusesAny_4 (by decide) ?_
  refine x_goto (tgt := 10) C dL_refusesAny_5 (by decide) ?_
  refine x_istore_n (lv' := [(0, .ref (q 0)), (1, .int (1 : Int32)), (2, .int (-1 : Int32))]) C dL_refusesAny_10 rfl (by decide) [1, 2, 0] rfl ?_
  refine x_iload_n C dL_refusesAny_11 rfl 1 rfl ?_
  refine x_if_eq (tgt := 19) C dL_refusesAny_12 (by decide) (fun w => absurd w (by decide)) (fun _ => ?_)
  refine x_iconst (v := (-1 : Int32)) C dL_refusesAny_15 (by decide) ?_
  refine x_goto (tgt := 20) C dL_refusesAny_16 (by decide) ?_
  refine x_istore_n (lv' := [(0, .ref (q 0)), (1, .int (1 : Int32)), (2, .int (-1 : Int32)), (3, .int (-1 : Int32))]) C dL_refusesAny_20 rfl (by decide) [1, 2, 3, 0] rfl ?_
  refine x_iload_n C dL_refusesAny_21 rfl 1 rfl ?_
  refine x_if_eq (tgt := 29) C dL_refusesAny_22 (by decide) (fun w => absurd w (by decide)) (fun _ => ?_)
  refine x_iconst (v := (-1 : Int32)) C dL_refusesAny_25 (by decide) ?_
  refine x_goto (tgt := 31) C dL_refusesAny_26 (by decide) ?_
  refine x_istore (lv' := [(0, .ref (q 0)), (1, .int (1 : Int32)), (2, .int (-1 : Int32)), (3, .int (-1 : Int32)), (4, .int (-1 : Int32))]) C dL_refusesAny_31 (by decide) [1, 2, 3, 4, 0] rfl ?_
  refine x_aload_n C dL_refusesAny_33 rfl 0 rfl ?_
  refine x_iconst (v := (0 : Int32)) C dL_refusesAny_34 (by decide) ?_
  refine x_iload_n C dL_refusesAny_35 rfl 2 rfl ?_
  refine x_bipush (v := (9 : Int32)) C dL_refusesAny_36 (by decide) ?_
  refine x_iconst (v := (0 : Int32)) C dL_refusesAny_38 (by decide) ?_
  refine x_callZw0 (n := 5) (shc := shH) (rest := []) (cells' := 1) (slots' := 6) C (List.append_nil _).symm hq wf_shH rfl hX (cT_write_IO l hl9 G q m h (-1 : Int32) (9 : Int32) (0 : Int32) (rx_write_m1_9 _).1 (rx_write_m1_9 _).2) (vx_cwSW 5 C.2.2.2.2.2.1 gL_refusesAny_L_told rfl rfl rfl (by decide +kernel) ⟨Nat.le_of_ble_eq_true rfl, Nat.le_of_ble_eq_true rfl⟩) rfl rfl (Nat.le_of_ble_eq_true rfl) dL_refusesAny_39 rfl rfl (Nat.le_of_ble_eq_true rfl) (Nat.le_of_ble_eq_true rfl) ?_
  refine x_bipush (v := (-11 : Int32)) C dL_refusesAny_42 (by decide) ?_
  refine x_icmp_ne (tgt := 291) C dL_refusesAny_44 (by decide) (fun w => absurd (by decide) w) (fun _ => ?_)
  refine x_aload_n C dL_refusesAny_47 rfl 0 rfl ?_
  refine x_iconst (v := (0 : Int32)) C dL_refusesAny_48 (by decide) ?_
  refine x_iconst (v := (0 : Int32)) C dL_refusesAny_49 (by decide) ?_
  refine x_iload_n C dL_refusesAny_50 rfl 3 rfl ?_
  refine x_iconst (v := (0 : Int32)) C dL_refusesAny_51 (by decide) ?_
  refine x_callZw0 (n := 5) (shc := shH) (rest := []) (cells' := 2) (slots' := 12) C (List.append_nil _).symm hq wf_shH rfl hX (cT_write_IA l hl9 G q m h (0 : Int32) (-1 : Int32) (0 : Int32) (rx_write_0_m1 _).1 (rx_write_0_m1 _).2) (vx_cwSW 5 C.2.2.2.2.2.1 gL_refusesAny_L_told rfl rfl rfl (by decide +kernel) ⟨Nat.le_of_ble_eq_true rfl, Nat.le_of_ble_eq_true rfl⟩) rfl rfl (Nat.le_of_ble_eq_true rfl) dL_refusesAny_52 rfl rfl (Nat.le_of_ble_eq_true rfl) (Nat.le_of_ble_eq_true rfl) ?_
  refine x_bipush (v := (-12 : Int32)) C dL_refusesAny_55 (by decide) ?_
  refine x_icmp_ne (tgt := 291) C dL_refusesAny_57 (by decide) (fun w => absurd (by decide) w) (fun _ => ?_)
  refine x_aload_n C dL_refusesAny_60 rfl 0 rfl ?_
  refine x_iconst (v := (1 : Int32)) C dL_refusesAny_61 (by decide) ?_
  refine x_iload_n C dL_refusesAny_62 rfl 2 rfl ?_
  refine x_bipush (v := (99 : Int32)) C dL_refusesAny_63 (by decide) ?_
  refine x_bipush (v := (9 : Int32)) C dL_refusesAny_65 (by decide) ?_
  refine x_callZw0 (n := 5) (shc := shH) (rest := []) (cells' := 3) (slots' := 18) C (List.append_nil _).symm hq wf_shH rfl hX (cT_writeRow_IO l hl9 G q m h (-1 : Int32) (99 : Int32) (9 : Int32) (rx_writeRow_m1_99_9 _).1 (rx_writeRow_m1_99_9 _).2) (vx_cwSW 5 C.2.2.2.2.2.1 gL_refusesAny_L_told rfl rfl rfl (by decide +kernel) ⟨Nat.le_of_ble_eq_true rfl, Nat.le_of_ble_eq_true rfl⟩) rfl rfl (Nat.le_of_ble_eq_true rfl) dL_refusesAny_67 rfl rfl (Nat.le_of_ble_eq_true rfl) (Nat.le_of_ble_eq_true rfl) ?_
  refine x_bipush (v := (-11 : Int32)) C dL_refusesAny_70 (by decide) ?_
  refine x_icmp_ne (tgt := 291) C dL_refusesAny_72 (by decide) (fun w => absurd (by decide) w) (fun _ => ?_)
  refine x_aload_n C dL_refusesAny_75 rfl 0 rfl ?_
  refine x_iconst (v := (1 : Int32)) C dL_refusesAny_76 (by decide) ?_
  refine x_iconst (v := (0 : Int32)) C dL_refusesAny_77 (by decide) ?_
  refine x_iload_n C dL_refusesAny_78 rfl 1 rfl ?_
  refine x_if_eq (tgt := 86) C dL_refusesAny_79 (by decide) (fun w => absurd w (by decide)) (fun _ => ?_)
  refine x_iconst (v := (0 : Int32)) C dL_refusesAny_82 (by decide) ?_
  refine x_goto (tgt := 88) C dL_refusesAny_83 (by decide) ?_
  refine x_iconst (v := (0 : Int32)) C dL_refusesAny_88 (by decide) ?_
  refine x_callZw0 (n := 5) (shc := shH) (rest := []) (cells' := 4) (slots' := 24) C (List.append_nil _).symm hq wf_shH rfl hX (cT_writeRow_IA l hl9 G q m h (0 : Int32) (0 : Int32) (0 : Int32) (rx_writeRow_0_0_0 _).1 (rx_writeRow_0_0_0 _).2) (vx_cwSW 5 C.2.2.2.2.2.1 gL_refusesAny_L_told rfl rfl rfl (by decide +kernel) ⟨Nat.le_of_ble_eq_true rfl, Nat.le_of_ble_eq_true rfl⟩) rfl rfl (Nat.le_of_ble_eq_true rfl) dL_refusesAny_89 rfl rfl (Nat.le_of_ble_eq_true rfl) (Nat.le_of_ble_eq_true rfl) ?_
  refine x_bipush (v := (-12 : Int32)) C dL_refusesAny_92 (by decide) ?_
  refine x_icmp_ne (tgt := 291) C dL_refusesAny_94 (by decide) (fun w => absurd (by decide) w) (fun _ => ?_)
  refine x_aload_n C dL_refusesAny_97 rfl 0 rfl ?_
  refine x_iconst (v := (1 : Int32)) C dL_refusesAny_98 (by decide) ?_
  refine x_bipush (v := (39 : Int32)) C dL_refusesAny_99 (by decide) ?_
  refine x_iconst (v := (2 : Int32)) C dL_refusesAny_101 (by decide) ?_
  refine x_iconst (v := (0 : Int32)) C dL_refusesAny_102 (by decide) ?_
  refine x_callZw0 (n := 5) (shc := shH) (rest := []) (cells' := 5) (slots' := 30) C (List.append_nil _).symm hq wf_shH rfl hX (cT_writeRow_IA l hl9 G q m h (39 : Int32) (2 : Int32) (0 : Int32) (rx_writeRow_39_2_0 _).1 (rx_writeRow_39_2_0 _).2) (vx_cwSW 5 C.2.2.2.2.2.1 gL_refusesAny_L_told rfl rfl rfl (by decide +kernel) ⟨Nat.le_of_ble_eq_true rfl, Nat.le_of_ble_eq_true rfl⟩) rfl rfl (Nat.le_of_ble_eq_true rfl) dL_refusesAny_103 rfl rfl (Nat.le_of_ble_eq_true rfl) (Nat.le_of_ble_eq_true rfl) ?_
  refine x_bipush (v := (-12 : Int32)) C dL_refusesAny_106 (by decide) ?_
  refine x_icmp_ne (tgt := 291) C dL_refusesAny_108 (by decide) (fun w => absurd (by decide) w) (fun _ => ?_)
  refine x_aload_n C dL_refusesAny_111 rfl 0 rfl ?_
  refine x_iconst (v := (1 : Int32)) C dL_refusesAny_112 (by decide) ?_
  refine x_iconst (v := (3 : Int32)) C dL_refusesAny_113 (by decide) ?_
  refine x_iconst (v := (2 : Int32)) C dL_refusesAny_114 (by decide) ?_
  refine x_iload_n C dL_refusesAny_115 rfl 3 rfl ?_
  refine x_callZw0 (n := 5) (shc := shH) (rest := []) (cells' := 6) (slots' := 36) C (List.append_nil _).symm hq wf_shH rfl hX (cT_writeRow_IA l hl9 G q m h (3 : Int32) (2 : Int32) (-1 : Int32) (rx_writeRow_3_2_m1 _).1 (rx_writeRow_3_2_m1 _).2) (vx_cwSW 5 C.2.2.2.2.2.1 gL_refusesAny_L_told rfl rfl rfl (by decide +kernel) ⟨Nat.le_of_ble_eq_true rfl, Nat.le_of_ble_eq_true rfl⟩) rfl rfl (Nat.le_of_ble_eq_true rfl) dL_refusesAny_116 rfl rfl (Nat.le_of_ble_eq_true rfl) (Nat.le_of_ble_eq_true rfl) ?_
  refine x_bipush (v := (-12 : Int32)) C dL_refusesAny_119 (by decide) ?_
  refine x_icmp_ne (tgt := 291) C dL_refusesAny_121 (by decide) (fun w => absurd (by decide) w) (fun _ => ?_)
  refine x_aload_n C dL_refusesAny_124 rfl 0 rfl ?_
  refine x_iconst (v := (2 : Int32)) C dL_refusesAny_125 (by decide) ?_
  refine x_iload_n C dL_refusesAny_126 rfl 2 rfl ?_
  refine x_iconst (v := (0 : Int32)) C dL_refusesAny_127 (by decide) ?_
  refine x_iconst (v := (0 : Int32)) C dL_refusesAny_128 (by decide) ?_
  refine x_callZw0 (n := 5) (shc := shH) (rest := []) (cells' := 7) (slots' := 42) C (List.append_nil _).symm hq wf_shH rfl hX (cT_trim_IO l hl9 G q m h (-1 : Int32) (0 : Int32) (0 : Int32) (rx_trim_m1 _).1 (rx_trim_m1 _).2) (vx_cwSW 5 C.2.2.2.2.2.1 gL_refusesAny_L_told rfl rfl rfl (by decide +kernel) ⟨Nat.le_of_ble_eq_true rfl, Nat.le_of_ble_eq_true rfl⟩) rfl rfl (Nat.le_of_ble_eq_true rfl) dL_refusesAny_129 rfl rfl (Nat.le_of_ble_eq_true rfl) (Nat.le_of_ble_eq_true rfl) ?_
  refine x_bipush (v := (-11 : Int32)) C dL_refusesAny_132 (by decide) ?_
  refine x_icmp_ne (tgt := 291) C dL_refusesAny_134 (by decide) (fun w => absurd (by decide) w) (fun _ => ?_)
  refine x_aload_n C dL_refusesAny_137 rfl 0 rfl ?_
  refine x_iconst (v := (3 : Int32)) C dL_refusesAny_138 (by decide) ?_
  refine x_iload_n C dL_refusesAny_139 rfl 2 rfl ?_
  refine x_bipush (v := (9 : Int32)) C dL_refusesAny_140 (by decide) ?_
  refine x_iconst (v := (0 : Int32)) C dL_refusesAny_142 (by decide) ?_
  refine x_callZw0 (n := 5) (shc := shH) (rest := []) (cells' := 8) (slots' := 48) C (List.append_nil _).symm hq wf_shH rfl hX (cT_hint_IO l hl9 G q m h (-1 : Int32) (9 : Int32) (0 : Int32) (rx_hint_m1_9 _).1 (rx_hint_m1_9 _).2) (vx_cwSW 5 C.2.2.2.2.2.1 gL_refusesAny_L_told rfl rfl rfl (by decide +kernel) ⟨Nat.le_of_ble_eq_true rfl, Nat.le_of_ble_eq_true rfl⟩) rfl rfl (Nat.le_of_ble_eq_true rfl) dL_refusesAny_143 rfl rfl (Nat.le_of_ble_eq_true rfl) (Nat.le_of_ble_eq_true rfl) ?_
  refine x_bipush (v := (-11 : Int32)) C dL_refusesAny_146 (by decide) ?_
  refine x_icmp_ne (tgt := 291) C dL_refusesAny_148 (by decide) (fun w => absurd (by decide) w) (fun _ => ?_)
  refine x_aload_n C dL_refusesAny_151 rfl 0 rfl ?_
  refine x_iconst (v := (3 : Int32)) C dL_refusesAny_152 (by decide) ?_
  refine x_iconst (v := (0 : Int32)) C dL_refusesAny_153 (by decide) ?_
  refine x_iload_n C dL_refusesAny_154 rfl 3 rfl ?_
  refine x_iconst (v := (0 : Int32)) C dL_refusesAny_155 (by decide) ?_
  refine x_callZw0 (n := 5) (shc := shH) (rest := []) (cells' := 9) (slots' := 54) C (List.append_nil _).symm hq wf_shH rfl hX (cT_hint_IA l hl9 G q m h (0 : Int32) (-1 : Int32) (0 : Int32) (rx_hint_0_m1 _).1 (rx_hint_0_m1 _).2) (vx_cwSW 5 C.2.2.2.2.2.1 gL_refusesAny_L_told rfl rfl rfl (by decide +kernel) ⟨Nat.le_of_ble_eq_true rfl, Nat.le_of_ble_eq_true rfl⟩) rfl rfl (Nat.le_of_ble_eq_true rfl) dL_refusesAny_156 rfl rfl (Nat.le_of_ble_eq_true rfl) (Nat.le_of_ble_eq_true rfl) ?_
  refine x_bipush (v := (-12 : Int32)) C dL_refusesAny_159 (by decide) ?_
  refine x_icmp_ne (tgt := 291) C dL_refusesAny_161 (by decide) (fun w => absurd (by decide) w) (fun _ => ?_)
  refine x_aload_n C dL_refusesAny_164 rfl 0 rfl ?_
  refine x_iconst (v := (4 : Int32)) C dL_refusesAny_165 (by decide) ?_
  refine x_iload C dL_refusesAny_166 4 rfl ?_
  refine x_iconst (v := (0 : Int32)) C dL_refusesAny_168 (by decide) ?_
  refine x_iconst (v := (0 : Int32)) C dL_refusesAny_169 (by decide) ?_
  refine x_callZw0 (n := 5) (shc := shH) (rest := []) (cells' := 10) (slots' := 60) C (List.append_nil _).symm hq wf_shH rfl hX (cT_collect_IO l hl9 G q m h (-1 : Int32) (0 : Int32) (0 : Int32) (rx_collect_m1 _).1 (rx_collect_m1 _).2) (vx_cwSW 5 C.2.2.2.2.2.1 gL_refusesAny_L_told rfl rfl rfl (by decide +kernel) ⟨Nat.le_of_ble_eq_true rfl, Nat.le_of_ble_eq_true rfl⟩) rfl rfl (Nat.le_of_ble_eq_true rfl) dL_refusesAny_170 rfl rfl (Nat.le_of_ble_eq_true rfl) (Nat.le_of_ble_eq_true rfl) ?_
  refine x_bipush (v := (-11 : Int32)) C dL_refusesAny_173 (by decide) ?_
  refine x_icmp_ne (tgt := 291) C dL_refusesAny_175 (by decide) (fun w => absurd (by decide) w) (fun _ => ?_)
  refine x_aload_n C dL_refusesAny_178 rfl 0 rfl ?_
  refine x_iconst (v := (5 : Int32)) C dL_refusesAny_179 (by decide) ?_
  refine x_iload_n C dL_refusesAny_180 rfl 1 rfl ?_
  refine x_if_eq (tgt := 188) C dL_refusesAny_181 (by decide) (fun w => absurd w (by decide)) (fun _ => ?_)
  refine x_iconst (v := (0 : Int32)) C dL_refusesAny_184 (by decide) ?_
  refine x_goto (tgt := 190) C dL_refusesAny_185 (by decide) ?_
  refine x_iconst (v := (0 : Int32)) C dL_refusesAny_190 (by decide) ?_
  refine x_iconst (v := (0 : Int32)) C dL_refusesAny_191 (by decide) ?_
  refine x_callZw0 (n := 5) (shc := shH) (rest := []) (cells' := 11) (slots' := 66) C (List.append_nil _).symm hq wf_shH rfl hX (cT_tidy_IA l hl9 G q m h (0 : Int32) (0 : Int32) (0 : Int32) (rx_tidy_0 _).1 (rx_tidy_0 _).2) (vx_cwSW 5 C.2.2.2.2.2.1 gL_refusesAny_L_told rfl rfl rfl (by decide +kernel) ⟨Nat.le_of_ble_eq_true rfl, Nat.le_of_ble_eq_true rfl⟩) rfl rfl (Nat.le_of_ble_eq_true rfl) dL_refusesAny_192 rfl rfl (Nat.le_of_ble_eq_true rfl) (Nat.le_of_ble_eq_true rfl) ?_
  refine x_bipush (v := (-12 : Int32)) C dL_refusesAny_195 (by decide) ?_
  refine x_icmp_ne (tgt := 291) C dL_refusesAny_197 (by decide) (fun w => absurd (by decide) w) (fun _ => ?_)
  refine x_aload_n C dL_refusesAny_200 rfl 0 rfl ?_
  refine x_bipush (v := (6 : Int32)) C dL_refusesAny_201 (by decide) ?_
  refine x_iload_n C dL_refusesAny_203 rfl 1 rfl ?_
  refine x_if_eq (tgt := 211) C dL_refusesAny_204 (by decide) (fun w => absurd w (by decide)) (fun _ => ?_)
  refine x_iconst (v := (-1 : Int32)) C dL_refusesAny_207 (by decide) ?_
  refine x_goto (tgt := 212) C dL_refusesAny_208 (by decide) ?_
  refine x_bipush (v := (9 : Int32)) C dL_refusesAny_212 (by decide) ?_
  refine x_iconst (v := (0 : Int32)) C dL_refusesAny_214 (by decide) ?_
  refine x_callZw0 (n := 5) (shc := shH) (rest := []) (cells' := 12) (slots' := 72) C (List.append_nil _).symm hq wf_shH rfl hX (cT_set_IO l hl9 G q m h (-1 : Int32) (9 : Int32) (0 : Int32) (rx_set_m1_9 _).1 (rx_set_m1_9 _).2) (vx_cwSW 5 C.2.2.2.2.2.1 gL_refusesAny_L_told rfl rfl rfl (by decide +kernel) ⟨Nat.le_of_ble_eq_true rfl, Nat.le_of_ble_eq_true rfl⟩) rfl rfl (Nat.le_of_ble_eq_true rfl) dL_refusesAny_215 rfl rfl (Nat.le_of_ble_eq_true rfl) (Nat.le_of_ble_eq_true rfl) ?_
  refine x_bipush (v := (-11 : Int32)) C dL_refusesAny_218 (by decide) ?_
  refine x_icmp_ne (tgt := 291) C dL_refusesAny_220 (by decide) (fun w => absurd (by decide) w) (fun _ => ?_)
  refine x_aload_n C dL_refusesAny_223 rfl 0 rfl ?_
  refine x_bipush (v := (6 : Int32)) C dL_refusesAny_224 (by decide) ?_
  refine x_iconst (v := (0 : Int32)) C dL_refusesAny_226 (by decide) ?_
  refine x_iload_n C dL_refusesAny_227 rfl 1 rfl ?_
  refine x_if_eq (tgt := 235) C dL_refusesAny_228 (by decide) (fun w => absurd w (by decide)) (fun _ => ?_)
  refine x_iconst (v := (-1 : Int32)) C dL_refusesAny_231 (by decide) ?_
  refine x_goto (tgt := 236) C dL_refusesAny_232 (by decide) ?_
  refine x_iconst (v := (0 : Int32)) C dL_refusesAny_236 (by decide) ?_
  refine x_callZw0 (n := 5) (shc := shH) (rest := []) (cells' := 13) (slots' := 78) C (List.append_nil _).symm hq wf_shH rfl hX (cT_set_IA l hl9 G q m h (0 : Int32) (-1 : Int32) (0 : Int32) (rx_set_0_m1 _).1 (rx_set_0_m1 _).2) (vx_cwSW 5 C.2.2.2.2.2.1 gL_refusesAny_L_told rfl rfl rfl (by decide +kernel) ⟨Nat.le_of_ble_eq_true rfl, Nat.le_of_ble_eq_true rfl⟩) rfl rfl (Nat.le_of_ble_eq_true rfl) dL_refusesAny_237 rfl rfl (Nat.le_of_ble_eq_true rfl) (Nat.le_of_ble_eq_true rfl) ?_
  refine x_bipush (v := (-12 : Int32)) C dL_refusesAny_240 (by decide) ?_
  refine x_icmp_ne (tgt := 291) C dL_refusesAny_242 (by decide) (fun w => absurd (by decide) w) (fun _ => ?_)
  refine x_aload_n C dL_refusesAny_245 rfl 0 rfl ?_
  refine x_bipush (v := (6 : Int32)) C dL_refusesAny_246 (by decide) ?_
  refine x_iconst (v := (1 : Int32)) C dL_refusesAny_248 (by decide) ?_
  refine x_iload_n C dL_refusesAny_249 rfl 1 rfl ?_
  refine x_if_eq (tgt := 257) C dL_refusesAny_250 (by decide) (fun w => absurd w (by decide)) (fun _ => ?_)
  refine x_iconst (v := (1 : Int32)) C dL_refusesAny_253 (by decide) ?_
  refine x_goto (tgt := 258) C dL_refusesAny_254 (by decide) ?_
  refine x_iconst (v := (0 : Int32)) C dL_refusesAny_258 (by decide) ?_
  refine x_callZw0 (n := 5) (shc := shH) (rest := []) (cells' := 14) (slots' := 84) C (List.append_nil _).symm hq wf_shH rfl hX (cT_set_IA l hl9 G q m h (1 : Int32) (1 : Int32) (0 : Int32) (rx_set_1_1 _).1 (rx_set_1_1 _).2) (vx_cwSW 5 C.2.2.2.2.2.1 gL_refusesAny_L_told rfl rfl rfl (by decide +kernel) ⟨Nat.le_of_ble_eq_true rfl, Nat.le_of_ble_eq_true rfl⟩) rfl rfl (Nat.le_of_ble_eq_true rfl) dL_refusesAny_259 rfl rfl (Nat.le_of_ble_eq_true rfl) (Nat.le_of_ble_eq_true rfl) ?_
  refine x_bipush (v := (-12 : Int32)) C dL_refusesAny_262 (by decide) ?_
  refine x_icmp_ne (tgt := 291) C dL_refusesAny_264 (by decide) (fun w => absurd (by decide) w) (fun _ => ?_)
  refine x_aload_n C dL_refusesAny_267 rfl 0 rfl ?_
  refine x_bipush (v := (7 : Int32)) C dL_refusesAny_268 (by decide) ?_
  refine x_iload_n C dL_refusesAny_270 rfl 1 rfl ?_
  refine x_if_eq (tgt := 279) C dL_refusesAny_271 (by decide) (fun w => absurd w (by decide)) (fun _ => ?_)
  refine x_bipush (v := (32 : Int32)) C dL_refusesAny_274 (by decide) ?_
  refine x_goto (tgt := 281) C dL_refusesAny_276 (by decide) ?_
  refine x_iconst (v := (0 : Int32)) C dL_refusesAny_281 (by decide) ?_
  refine x_iconst (v := (0 : Int32)) C dL_refusesAny_282 (by decide) ?_
  refine x_callZw0 (n := 5) (shc := shH) (rest := []) (cells' := 15) (slots' := 90) C (List.append_nil _).symm hq wf_shH rfl hX (cT_append_IA l hl9 G q m h (32 : Int32) (0 : Int32) (0 : Int32) (rx_append_32 _).1 (rx_append_32 _).2) (vx_cwSW 5 C.2.2.2.2.2.1 gL_refusesAny_L_told rfl rfl rfl (by decide +kernel) ⟨Nat.le_of_ble_eq_true rfl, Nat.le_of_ble_eq_true rfl⟩) rfl rfl (Nat.le_of_ble_eq_true rfl) dL_refusesAny_283 rfl rfl (Nat.le_of_ble_eq_true rfl) (Nat.le_of_ble_eq_true rfl) ?_
  refine x_bipush (v := (-12 : Int32)) C dL_refusesAny_286 (by decide) ?_
  refine x_icmp_eq (tgt := 293) C dL_refusesAny_288 (by decide) (fun _ => ?_) (fun w => absurd (by decide) w)
  refine x_aload_n C dL_refusesAny_293 rfl 0 rfl ?_
  refine x_bipush (v := (10 : Int32)) C dL_refusesAny_294 (by decide) ?_
  refine x_iload_n C dL_refusesAny_296 rfl 2 rfl ?_
  refine x_bipush (v := (9 : Int32)) C dL_refusesAny_297 (by decide) ?_
  refine x_iconst (v := (0 : Int32)) C dL_refusesAny_299 (by decide) ?_
  refine x_callZw0 (n := 5) (shc := shH) (rest := []) (cells' := 16) (slots' := 96) C (List.append_nil _).symm hq wf_shH rfl hX (cT_page_IO l hl9 G q m h (-1 : Int32) (9 : Int32) (0 : Int32) (rx_page_m1_9 _).1 (rx_page_m1_9 _).2) (vx_cwSW 5 C.2.2.2.2.2.1 gL_refusesAny_L_told rfl rfl rfl (by decide +kernel) ⟨Nat.le_of_ble_eq_true rfl, Nat.le_of_ble_eq_true rfl⟩) rfl rfl (Nat.le_of_ble_eq_true rfl) dL_refusesAny_300 rfl rfl (Nat.le_of_ble_eq_true rfl) (Nat.le_of_ble_eq_true rfl) ?_
  refine x_bipush (v := (-11 : Int32)) C dL_refusesAny_303 (by decide) ?_
  refine x_icmp_ne (tgt := 453) C dL_refusesAny_305 (by decide) (fun w => absurd (by decide) w) (fun _ => ?_)
  refine x_aload_n C dL_refusesAny_308 rfl 0 rfl ?_
  refine x_bipush (v := (10 : Int32)) C dL_refusesAny_309 (by decide) ?_
  refine x_iconst (v := (0 : Int32)) C dL_refusesAny_311 (by decide) ?_
  refine x_iload_n C dL_refusesAny_312 rfl 1 rfl ?_
  refine x_if_eq (tgt := 320) C dL_refusesAny_313 (by decide) (fun w => absurd w (by decide)) (fun _ => ?_)
  refine x_iconst (v := (-1 : Int32)) C dL_refusesAny_316 (by decide) ?_
  refine x_goto (tgt := 322) C dL_refusesAny_317 (by decide) ?_
  refine x_iconst (v := (0 : Int32)) C dL_refusesAny_322 (by decide) ?_
  refine x_callZw0 (n := 5) (shc := shH) (rest := []) (cells' := 17) (slots' := 102) C (List.append_nil _).symm hq wf_shH rfl hX (cT_page_IA l hl9 G q m h (0 : Int32) (-1 : Int32) (0 : Int32) (rx_page_0_m1 _).1 (rx_page_0_m1 _).2) (vx_cwSW 5 C.2.2.2.2.2.1 gL_refusesAny_L_told rfl rfl rfl (by decide +kernel) ⟨Nat.le_of_ble_eq_true rfl, Nat.le_of_ble_eq_true rfl⟩) rfl rfl (Nat.le_of_ble_eq_true rfl) dL_refusesAny_323 rfl rfl (Nat.le_of_ble_eq_true rfl) (Nat.le_of_ble_eq_true rfl) ?_
  refine x_bipush (v := (-12 : Int32)) C dL_refusesAny_326 (by decide) ?_
  refine x_icmp_ne (tgt := 453) C dL_refusesAny_328 (by decide) (fun w => absurd (by decide) w) (fun _ => ?_)
  refine x_aload_n C dL_refusesAny_331 rfl 0 rfl ?_
  refine x_bipush (v := (11 : Int32)) C dL_refusesAny_332 (by decide) ?_
  refine x_iload C dL_refusesAny_334 4 rfl ?_
  refine x_bipush (v := (9 : Int32)) C dL_refusesAny_336 (by decide) ?_
  refine x_iconst (v := (0 : Int32)) C dL_refusesAny_338 (by decide) ?_
  refine x_callZw0 (n := 5) (shc := shH) (rest := []) (cells' := 18) (slots' := 108) C (List.append_nil _).symm hq wf_shH rfl hX (cT_block_IO l hl9 G q m h (-1 : Int32) (9 : Int32) (0 : Int32) (rx_block_m1_9 _).1 (rx_block_m1_9 _).2) (vx_cwSW 5 C.2.2.2.2.2.1 gL_refusesAny_L_told rfl rfl rfl (by decide +kernel) ⟨Nat.le_of_ble_eq_true rfl, Nat.le_of_ble_eq_true rfl⟩) rfl rfl (Nat.le_of_ble_eq_true rfl) dL_refusesAny_339 rfl rfl (Nat.le_of_ble_eq_true rfl) (Nat.le_of_ble_eq_true rfl) ?_
  refine x_bipush (v := (-11 : Int32)) C dL_refusesAny_342 (by decide) ?_
  refine x_icmp_ne (tgt := 453) C dL_refusesAny_344 (by decide) (fun w => absurd (by decide) w) (fun _ => ?_)
  refine x_aload_n C dL_refusesAny_347 rfl 0 rfl ?_
  refine x_bipush (v := (11 : Int32)) C dL_refusesAny_348 (by decide) ?_
  refine x_iconst (v := (0 : Int32)) C dL_refusesAny_350 (by decide) ?_
  refine x_iload_n C dL_refusesAny_351 rfl 1 rfl ?_
  refine x_if_eq (tgt := 359) C dL_refusesAny_352 (by decide) (fun w => absurd w (by decide)) (fun _ => ?_)
  refine x_iconst (v := (-1 : Int32)) C dL_refusesAny_355 (by decide) ?_
  refine x_goto (tgt := 361) C dL_refusesAny_356 (by decide) ?_
  refine x_iconst (v := (0 : Int32)) C dL_refusesAny_361 (by decide) ?_
  refine x_callZw0 (n := 5) (shc := shH) (rest := []) (cells' := 19) (slots' := 114) C (List.append_nil _).symm hq wf_shH rfl hX (cT_block_IA l hl9 G q m h (0 : Int32) (-1 : Int32) (0 : Int32) (rx_block_0_m1 _).1 (rx_block_0_m1 _).2) (vx_cwSW 5 C.2.2.2.2.2.1 gL_refusesAny_L_told rfl rfl rfl (by decide +kernel) ⟨Nat.le_of_ble_eq_true rfl, Nat.le_of_ble_eq_true rfl⟩) rfl rfl (Nat.le_of_ble_eq_true rfl) dL_refusesAny_362 rfl rfl (Nat.le_of_ble_eq_true rfl) (Nat.le_of_ble_eq_true rfl) ?_
  refine x_bipush (v := (-12 : Int32)) C dL_refusesAny_365 (by decide) ?_
  refine x_icmp_ne (tgt := 453) C dL_refusesAny_367 (by decide) (fun w => absurd (by decide) w) (fun _ => ?_)
  refine x_aload_n C dL_refusesAny_370 rfl 0 rfl ?_
  refine x_bipush (v := (12 : Int32)) C dL_refusesAny_371 (by decide) ?_
  refine x_iload C dL_refusesAny_373 4 rfl ?_
  refine x_iconst (v := (0 : Int32)) C dL_refusesAny_375 (by decide) ?_
  refine x_iconst (v := (1 : Int32)) C dL_refusesAny_376 (by decide) ?_
  refine x_callZw0 (n := 5) (shc := shH) (rest := []) (cells' := 20) (slots' := 120) C (List.append_nil _).symm hq wf_shH rfl hX (cT_slot1_IO l hl9 G q m h (-1 : Int32) (0 : Int32) (1 : Int32) (rx_slot_m1_0_1 _).1 (rx_slot_m1_0_1 _).2) (vx_cwSW 5 C.2.2.2.2.2.1 gL_refusesAny_L_told rfl rfl rfl (by decide +kernel) ⟨Nat.le_of_ble_eq_true rfl, Nat.le_of_ble_eq_true rfl⟩) rfl rfl (Nat.le_of_ble_eq_true rfl) dL_refusesAny_377 rfl rfl (Nat.le_of_ble_eq_true rfl) (Nat.le_of_ble_eq_true rfl) ?_
  refine x_bipush (v := (-11 : Int32)) C dL_refusesAny_380 (by decide) ?_
  refine x_icmp_ne (tgt := 453) C dL_refusesAny_382 (by decide) (fun w => absurd (by decide) w) (fun _ => ?_)
  refine x_aload_n C dL_refusesAny_385 rfl 0 rfl ?_
  refine x_bipush (v := (12 : Int32)) C dL_refusesAny_386 (by decide) ?_
  refine x_iconst (v := (0 : Int32)) C dL_refusesAny_388 (by decide) ?_
  refine x_iload_n C dL_refusesAny_389 rfl 1 rfl ?_
  refine x_if_eq (tgt := 397) C dL_refusesAny_390 (by decide) (fun w => absurd w (by decide)) (fun _ => ?_)
  refine x_iconst (v := (-1 : Int32)) C dL_refusesAny_393 (by decide) ?_
  refine x_goto (tgt := 399) C dL_refusesAny_394 (by decide) ?_
  refine x_iconst (v := (0 : Int32)) C dL_refusesAny_399 (by decide) ?_
  refine x_callZw0 (n := 5) (shc := shH) (rest := []) (cells' := 21) (slots' := 126) C (List.append_nil _).symm hq wf_shH rfl hX (cT_slot0_IO l hl9 G q m h (0 : Int32) (-1 : Int32) (0 : Int32) (rx_slot_0_m1_0 _).1 (rx_slot_0_m1_0 _).2) (vx_cwSW 5 C.2.2.2.2.2.1 gL_refusesAny_L_told rfl rfl rfl (by decide +kernel) ⟨Nat.le_of_ble_eq_true rfl, Nat.le_of_ble_eq_true rfl⟩) rfl rfl (Nat.le_of_ble_eq_true rfl) dL_refusesAny_400 rfl rfl (Nat.le_of_ble_eq_true rfl) (Nat.le_of_ble_eq_true rfl) ?_
  refine x_bipush (v := (-11 : Int32)) C dL_refusesAny_403 (by decide) ?_
  refine x_icmp_ne (tgt := 453) C dL_refusesAny_405 (by decide) (fun w => absurd (by decide) w) (fun _ => ?_)
  refine x_aload_n C dL_refusesAny_408 rfl 0 rfl ?_
  refine x_bipush (v := (13 : Int32)) C dL_refusesAny_409 (by decide) ?_
  refine x_iload_n C dL_refusesAny_411 rfl 1 rfl ?_
  refine x_if_eq (tgt := 419) C dL_refusesAny_412 (by decide) (fun w => absurd w (by decide)) (fun _ => ?_)
  refine x_iconst (v := (-1 : Int32)) C dL_refusesAny_415 (by decide) ?_
  refine x_goto (tgt := 420) C dL_refusesAny_416 (by decide) ?_
  refine x_bipush (v := (9 : Int32)) C dL_refusesAny_420 (by decide) ?_
  refine x_iconst (v := (0 : Int32)) C dL_refusesAny_422 (by decide) ?_
  refine x_callZw0 (n := 5) (shc := shH) (rest := []) (cells' := 22) (slots' := 132) C (List.append_nil _).symm hq wf_shH rfl hX (cT_stream_IO l hl9 G q m h (-1 : Int32) (9 : Int32) (0 : Int32) (rx_stream_m1_9 _).1 (rx_stream_m1_9 _).2) (vx_cwSW 5 C.2.2.2.2.2.1 gL_refusesAny_L_told rfl rfl rfl (by decide +kernel) ⟨Nat.le_of_ble_eq_true rfl, Nat.le_of_ble_eq_true rfl⟩) rfl rfl (Nat.le_of_ble_eq_true rfl) dL_refusesAny_423 rfl rfl (Nat.le_of_ble_eq_true rfl) (Nat.le_of_ble_eq_true rfl) ?_
  refine x_bipush (v := (-11 : Int32)) C dL_refusesAny_426 (by decide) ?_
  refine x_icmp_ne (tgt := 453) C dL_refusesAny_428 (by decide) (fun w => absurd (by decide) w) (fun _ => ?_)
  refine x_aload_n C dL_refusesAny_431 rfl 0 rfl ?_
  refine x_bipush (v := (13 : Int32)) C dL_refusesAny_432 (by decide) ?_
  refine x_iconst (v := (0 : Int32)) C dL_refusesAny_434 (by decide) ?_
  refine x_iload_n C dL_refusesAny_435 rfl 1 rfl ?_
  refine x_if_eq (tgt := 443) C dL_refusesAny_436 (by decide) (fun w => absurd w (by decide)) (fun _ => ?_)
  refine x_iconst (v := (-1 : Int32)) C dL_refusesAny_439 (by decide) ?_
  refine x_goto (tgt := 444) C dL_refusesAny_440 (by decide) ?_
  refine x_iconst (v := (0 : Int32)) C dL_refusesAny_444 (by decide) ?_
  refine x_callZw0 (n := 5) (shc := shH) (rest := []) (cells' := 23) (slots' := 138) C (List.append_nil _).symm hq wf_shH rfl hX (cT_stream_IA l hl9 G q m h (0 : Int32) (-1 : Int32) (0 : Int32) (rx_stream_0_m1 _).1 (rx_stream_0_m1 _).2) (vx_cwSW 5 C.2.2.2.2.2.1 gL_refusesAny_L_told rfl rfl rfl (by decide +kernel) ⟨Nat.le_of_ble_eq_true rfl, Nat.le_of_ble_eq_true rfl⟩) rfl rfl (Nat.le_of_ble_eq_true rfl) dL_refusesAny_445 rfl rfl (Nat.le_of_ble_eq_true rfl) (Nat.le_of_ble_eq_true rfl) ?_
  refine x_bipush (v := (-12 : Int32)) C dL_refusesAny_448 (by decide) ?_
  refine x_icmp_eq (tgt := 455) C dL_refusesAny_450 (by decide) (fun _ => ?_) (fun w => absurd (by decide) w)
  refine x_aload_n C dL_refusesAny_455 rfl 0 rfl ?_
  refine x_bipush (v := (14 : Int32)) C dL_refusesAny_456 (by decide) ?_
  refine x_iload_n C dL_refusesAny_458 rfl 1 rfl ?_
  refine x_if_eq (tgt := 466) C dL_refusesAny_459 (by decide) (fun w => absurd w (by decide)) (fun _ => ?_)
  refine x_iconst (v := (-1 : Int32)) C dL_refusesAny_462 (by decide) ?_
  refine x_goto (tgt := 468) C dL_refusesAny_463 (by decide) ?_
  refine x_iconst (v := (0 : Int32)) C dL_refusesAny_468 (by decide) ?_
  refine x_iconst (v := (0 : Int32)) C dL_refusesAny_469 (by decide) ?_
  refine x_callZw0 (n := 5) (shc := shH) (rest := []) (cells' := 24) (slots' := 144) C (List.append_nil _).symm hq wf_shH rfl hX (cT_count_IA l hl9 G q m h (-1 : Int32) (0 : Int32) (0 : Int32) (rx_count_m1 _).1 (rx_count_m1 _).2) (vx_cwSW 5 C.2.2.2.2.2.1 gL_refusesAny_L_told rfl rfl rfl (by decide +kernel) ⟨Nat.le_of_ble_eq_true rfl, Nat.le_of_ble_eq_true rfl⟩) rfl rfl (Nat.le_of_ble_eq_true rfl) dL_refusesAny_470 rfl rfl (Nat.le_of_ble_eq_true rfl) (Nat.le_of_ble_eq_true rfl) ?_
  refine x_bipush (v := (-12 : Int32)) C dL_refusesAny_473 (by decide) ?_
  refine x_icmp_ne (tgt := 602) C dL_refusesAny_475 (by decide) (fun w => absurd (by decide) w) (fun _ => ?_)
  refine x_aload_n C dL_refusesAny_478 rfl 0 rfl ?_
  refine x_bipush (v := (15 : Int32)) C dL_refusesAny_479 (by decide) ?_
  refine x_iload_n C dL_refusesAny_481 rfl 1 rfl ?_
  refine x_if_eq (tgt := 489) C dL_refusesAny_482 (by decide) (fun w => absurd w (by decide)) (fun _ => ?_)
  refine x_iconst (v := (-1 : Int32)) C dL_refusesAny_485 (by decide) ?_
  refine x_goto (tgt := 490) C dL_refusesAny_486 (by decide) ?_
  refine x_iconst (v := (0 : Int32)) C dL_refusesAny_490 (by decide) ?_
  refine x_iconst (v := (0 : Int32)) C dL_refusesAny_491 (by decide) ?_
  refine x_callZw0 (n := 5) (shc := shH) (rest := []) (cells' := 25) (slots' := 150) C (List.append_nil _).symm hq wf_shH rfl hX (cT_setting_IO l hl9 G q m h (-1 : Int32) (0 : Int32) (0 : Int32) (rx_setting_m1 _).1 (rx_setting_m1 _).2) (vx_cwSW 5 C.2.2.2.2.2.1 gL_refusesAny_L_told rfl rfl rfl (by decide +kernel) ⟨Nat.le_of_ble_eq_true rfl, Nat.le_of_ble_eq_true rfl⟩) rfl rfl (Nat.le_of_ble_eq_true rfl) dL_refusesAny_492 rfl rfl (Nat.le_of_ble_eq_true rfl) (Nat.le_of_ble_eq_true rfl) ?_
  refine x_bipush (v := (-11 : Int32)) C dL_refusesAny_495 (by decide) ?_
  refine x_icmp_ne (tgt := 602) C dL_refusesAny_497 (by decide) (fun w => absurd (by decide) w) (fun _ => ?_)
  refine x_aload_n C dL_refusesAny_500 rfl 0 rfl ?_
  refine x_bipush (v := (16 : Int32)) C dL_refusesAny_501 (by decide) ?_
  refine x_iload_n C dL_refusesAny_503 rfl 2 rfl ?_
  refine x_bipush (v := (9 : Int32)) C dL_refusesAny_504 (by decide) ?_
  refine x_bipush (v := (9 : Int32)) C dL_refusesAny_506 (by decide) ?_
  refine x_callZw0 (n := 5) (shc := shH) (rest := []) (cells' := 26) (slots' := 156) C (List.append_nil _).symm hq wf_shH rfl hX (cT_ifWritten_IO l hl9 G q m h (-1 : Int32) (9 : Int32) (9 : Int32) (rx_ifWritten_m1_9_9 _).1 (rx_ifWritten_m1_9_9 _).2) (vx_cwSW 5 C.2.2.2.2.2.1 gL_refusesAny_L_told rfl rfl rfl (by decide +kernel) ⟨Nat.le_of_ble_eq_true rfl, Nat.le_of_ble_eq_true rfl⟩) rfl rfl (Nat.le_of_ble_eq_true rfl) dL_refusesAny_508 rfl rfl (Nat.le_of_ble_eq_true rfl) (Nat.le_of_ble_eq_true rfl) ?_
  refine x_bipush (v := (-11 : Int32)) C dL_refusesAny_511 (by decide) ?_
  refine x_icmp_ne (tgt := 602) C dL_refusesAny_513 (by decide) (fun w => absurd (by decide) w) (fun _ => ?_)
  refine x_aload_n C dL_refusesAny_516 rfl 0 rfl ?_
  refine x_bipush (v := (16 : Int32)) C dL_refusesAny_517 (by decide) ?_
  refine x_iconst (v := (0 : Int32)) C dL_refusesAny_519 (by decide) ?_
  refine x_iload_n C dL_refusesAny_520 rfl 3 rfl ?_
  refine x_iconst (v := (0 : Int32)) C dL_refusesAny_521 (by decide) ?_
  refine x_callZw0 (n := 5) (shc := shH) (rest := []) (cells' := 27) (slots' := 162) C (List.append_nil _).symm hq wf_shH rfl hX (cT_ifWritten_IA l hl9 G q m h (0 : Int32) (-1 : Int32) (0 : Int32) (rx_ifWritten_0_m1_0 _).1 (rx_ifWritten_0_m1_0 _).2) (vx_cwSW 5 C.2.2.2.2.2.1 gL_refusesAny_L_told rfl rfl rfl (by decide +kernel) ⟨Nat.le_of_ble_eq_true rfl, Nat.le_of_ble_eq_true rfl⟩) rfl rfl (Nat.le_of_ble_eq_true rfl) dL_refusesAny_522 rfl rfl (Nat.le_of_ble_eq_true rfl) (Nat.le_of_ble_eq_true rfl) ?_
  refine x_bipush (v := (-12 : Int32)) C dL_refusesAny_525 (by decide) ?_
  refine x_icmp_ne (tgt := 602) C dL_refusesAny_527 (by decide) (fun w => absurd (by decide) w) (fun _ => ?_)
  refine x_aload_n C dL_refusesAny_530 rfl 0 rfl ?_
  refine x_bipush (v := (16 : Int32)) C dL_refusesAny_531 (by decide) ?_
  refine x_iconst (v := (0 : Int32)) C dL_refusesAny_533 (by decide) ?_
  refine x_iconst (v := (0 : Int32)) C dL_refusesAny_534 (by decide) ?_
  refine x_iload_n C dL_refusesAny_535 rfl 1 rfl ?_
  refine x_if_eq (tgt := 543) C dL_refusesAny_536 (by decide) (fun w => absurd w (by decide)) (fun _ => ?_)
  refine x_iconst (v := (-1 : Int32)) C dL_refusesAny_539 (by decide) ?_
  refine x_goto (tgt := 544) C dL_refusesAny_540 (by decide) ?_
  refine x_callZw0 (n := 5) (shc := shH) (rest := []) (cells' := 28) (slots' := 168) C (List.append_nil _).symm hq wf_shH rfl hX (cT_ifWritten_IA l hl9 G q m h (0 : Int32) (0 : Int32) (-1 : Int32) (rx_ifWritten_0_0_m1 _).1 (rx_ifWritten_0_0_m1 _).2) (vx_cwSW 5 C.2.2.2.2.2.1 gL_refusesAny_L_told rfl rfl rfl (by decide +kernel) ⟨Nat.le_of_ble_eq_true rfl, Nat.le_of_ble_eq_true rfl⟩) rfl rfl (Nat.le_of_ble_eq_true rfl) dL_refusesAny_544 rfl rfl (Nat.le_of_ble_eq_true rfl) (Nat.le_of_ble_eq_true rfl) ?_
  refine x_bipush (v := (-12 : Int32)) C dL_refusesAny_547 (by decide) ?_
  refine x_icmp_ne (tgt := 602) C dL_refusesAny_549 (by decide) (fun w => absurd (by decide) w) (fun _ => ?_)
  refine x_aload_n C dL_refusesAny_552 rfl 0 rfl ?_
  refine x_bipush (v := (17 : Int32)) C dL_refusesAny_553 (by decide) ?_
  refine x_iload_n C dL_refusesAny_555 rfl 1 rfl ?_
  refine x_if_eq (tgt := 563) C dL_refusesAny_556 (by decide) (fun w => absurd w (by decide)) (fun _ => ?_)
  refine x_iconst (v := (0 : Int32)) C dL_refusesAny_559 (by decide) ?_
  refine x_goto (tgt := 565) C dL_refusesAny_560 (by decide) ?_
  refine x_iconst (v := (0 : Int32)) C dL_refusesAny_565 (by decide) ?_
  refine x_iconst (v := (0 : Int32)) C dL_refusesAny_566 (by decide) ?_
  refine x_callZw0 (n := 5) (shc := shH) (rest := []) (cells' := 29) (slots' := 174) C (List.append_nil _).symm hq wf_shH rfl hX (cT_ifRewritten_IA l hl9 G q m h (0 : Int32) (0 : Int32) (0 : Int32) (rx_ifRewritten_0 _).1 (rx_ifRewritten_0 _).2) (vx_cwSW 5 C.2.2.2.2.2.1 gL_refusesAny_L_told rfl rfl rfl (by decide +kernel) ⟨Nat.le_of_ble_eq_true rfl, Nat.le_of_ble_eq_true rfl⟩) rfl rfl (Nat.le_of_ble_eq_true rfl) dL_refusesAny_567 rfl rfl (Nat.le_of_ble_eq_true rfl) (Nat.le_of_ble_eq_true rfl) ?_
  refine x_bipush (v := (-12 : Int32)) C dL_refusesAny_570 (by decide) ?_
  refine x_icmp_ne (tgt := 602) C dL_refusesAny_572 (by decide) (fun w => absurd (by decide) w) (fun _ => ?_)
  refine x_aload_n C dL_refusesAny_575 rfl 0 rfl ?_
  refine x_bipush (v := (18 : Int32)) C dL_refusesAny_576 (by decide) ?_
  refine x_iload_n C dL_refusesAny_578 rfl 1 rfl ?_
  refine x_if_eq (tgt := 586) C dL_refusesAny_579 (by decide) (fun w => absurd w (by decide)) (fun _ => ?_)
  refine x_iconst (v := (0 : Int32)) C dL_refusesAny_582 (by decide) ?_
  refine x_goto (tgt := 588) C dL_refusesAny_583 (by decide) ?_
  refine x_iconst (v := (0 : Int32)) C dL_refusesAny_588 (by decide) ?_
  refine x_iconst (v := (0 : Int32)) C dL_refusesAny_589 (by decide) ?_
  refine x_callZw0 (n := 5) (shc := shH) (rest := []) (cells' := 30) (slots' := 180) C (List.append_nil _).symm hq wf_shH rfl hX (cT_bestRule_IA l hl9 G q m h (0 : Int32) (0 : Int32) (0 : Int32) (rx_bestRule_0 _).1 (rx_bestRule_0 _).2) (vx_cwSW 5 C.2.2.2.2.2.1 gL_refusesAny_L_told rfl rfl rfl (by decide +kernel) ⟨Nat.le_of_ble_eq_true rfl, Nat.le_of_ble_eq_true rfl⟩) rfl rfl (Nat.le_of_ble_eq_true rfl) dL_refusesAny_590 rfl rfl (Nat.le_of_ble_eq_true rfl) (Nat.le_of_ble_eq_true rfl) ?_
  refine x_bipush (v := (-12 : Int32)) C dL_refusesAny_593 (by decide) ?_
  refine x_icmp_ne (tgt := 602) C dL_refusesAny_595 (by decide) (fun w => absurd (by decide) w) (fun _ => ?_)
  refine x_iconst (v := (1 : Int32)) C dL_refusesAny_598 (by decide) ?_
  refine x_goto (tgt := 603) C dL_refusesAny_599 (by decide) ?_
  exact g_sret C hr (by decide) dL_refusesAny_603 rfl rfl rfl (Nat.le_of_ble_eq_true rfl) (Nat.le_of_ble_eq_true rfl)
set_option maxRecDepth 100000 in
set_option maxHeartbeats 4000000 in
theorem c_l_refusesAny_0 (l : Launch) (hl9 : l.stackTraces = false) (G : gG) (q : Nat → Nat) (m : gM) (h : gN) : gMs l yL_refusesAny wsL_refusesAny rmRA G shH q m h [.ref (q 0), .int (0 : Int32)] m h 1 30 180 := by
  intro sz
  refine g_metz (cc := cL_refusesAny) (maxL := 5) (ret := (some .boolean)) (own := RL) (Qc := fun sz => gQi G shH q m h sz 1) (by decide) rfl rfl (Nat.le_of_ble_eq_true rfl) (fun p e s m9 below meth c C hq hX hr => ?_)
  refine x_lv (lv' := [(0, .ref (q 0)), (1, .int (0 : Int32))]) [0, 1] rfl ?_
  refine x_iload_n C dL_refusesAny_0 rfl 1 rfl ?_
  refine x_if_eq (tgt := 8) C dL_refusesAny_1 (by decide) (fun _ => ?_) (fun w => absurd (by decide) w)
  refine x_bipush (v := (40 : Int32)) C dL_refusesAny_8 (by decide) ?_
  refine x_istore_n (lv' := [(0, .ref (q 0)), (1, .int (0 : Int32)), (2, .int (40 : Int32))]) C dL_refusesAny_10 rfl (by decide) [1, 2, 0] rfl ?_
  refine x_iload_n C dL_refusesAny_11 rfl 1 rfl ?_
  refine x_if_eq (tgt := 19) C dL_refusesAny_12 (by decide) (fun _ => ?_) (fun w => absurd (by decide) w)
  refine x_iconst (v := (4 : Int32)) C dL_refusesAny_19 (by decide) ?_
  refine x_istore_n (lv' := [(0, .ref (q 0)), (1, .int (0 : Int32)), (2, .int (40 : Int32)), (3, .int (4 : Int32))]) C dL_refusesAny_20 rfl (by decide) [1, 2, 3, 0] rfl ?_
  refine x_iload_n C dL_refusesAny_21 rfl 1 rfl ?_
  refine x_if_eq (tgt := 29) C dL_refusesAny_22 (by decide) (fun _ => ?_) (fun w => absurd (by decide) w)
  refine x_bipush (v := (12 : Int32)) C dL_refusesAny_29 (by decide) ?_
  refine x_istore (lv' := [(0, .ref (q 0)), (1, .int (0 : Int32)), (2, .int (40 : Int32)), (3, .int (4 : Int32)), (4, .int (12 : Int32))]) C dL_refusesAny_31 (by decide) [1, 2, 3, 4, 0] rfl ?_
  refine x_aload_n C dL_refusesAny_33 rfl 0 rfl ?_
  refine x_iconst (v := (0 : Int32)) C dL_refusesAny_34 (by decide) ?_
  refine x_iload_n C dL_refusesAny_35 rfl 2 rfl ?_
  refine x_bipush (v := (9 : Int32)) C dL_refusesAny_36 (by decide) ?_
  refine x_iconst (v := (0 : Int32)) C dL_refusesAny_38 (by decide) ?_
  refine x_callZw0 (n := 5) (shc := shH) (rest := []) (cells' := 1) (slots' := 6) C (List.append_nil _).symm hq wf_shH rfl hX (cT_write_IO l hl9 G q m h (40 : Int32) (9 : Int32) (0 : Int32) (rx_write_40_9 _).1 (rx_write_40_9 _).2) (vx_cwSW 5 C.2.2.2.2.2.1 gL_refusesAny_L_told rfl rfl rfl (by decide +kernel) ⟨Nat.le_of_ble_eq_true rfl, Nat.le_of_ble_eq_true rfl⟩) rfl rfl (Nat.le_of_ble_eq_true rfl) dL_refusesAny_39 rfl rfl (Nat.le_of_ble_eq_true rfl) (Nat.le_of_ble_eq_true rfl) ?_
  refine x_bipush (v := (-11 : Int32)) C dL_refusesAny_42 (by decide) ?_
  refine x_icmp_ne (tgt := 291) C dL_refusesAny_44 (by decide) (fun w => absurd (by decide) w) (fun _ => ?_)
  refine x_aload_n C dL_refusesAny_47 rfl 0 rfl ?_
  refine x_iconst (v := (0 : Int32)) C dL_refusesAny_48 (by decide) ?_
  refine x_iconst (v := (0 : Int32)) C dL_refusesAny_49 (by decide) ?_
  refine x_iload_n C dL_refusesAny_50 rfl 3 rfl ?_
  refine x_iconst (v := (0 : Int32)) C dL_refusesAny_51 (by decide) ?_
  refine x_callZw0 (n := 5) (shc := shH) (rest := []) (cells' := 2) (slots' := 12) C (List.append_nil _).symm hq wf_shH rfl hX (cT_write_IA l hl9 G q m h (0 : Int32) (4 : Int32) (0 : Int32) (rx_write_0_4 _).1 (rx_write_0_4 _).2) (vx_cwSW 5 C.2.2.2.2.2.1 gL_refusesAny_L_told rfl rfl rfl (by decide +kernel) ⟨Nat.le_of_ble_eq_true rfl, Nat.le_of_ble_eq_true rfl⟩) rfl rfl (Nat.le_of_ble_eq_true rfl) dL_refusesAny_52 rfl rfl (Nat.le_of_ble_eq_true rfl) (Nat.le_of_ble_eq_true rfl) ?_
  refine x_bipush (v := (-12 : Int32)) C dL_refusesAny_55 (by decide) ?_
  refine x_icmp_ne (tgt := 291) C dL_refusesAny_57 (by decide) (fun w => absurd (by decide) w) (fun _ => ?_)
  refine x_aload_n C dL_refusesAny_60 rfl 0 rfl ?_
  refine x_iconst (v := (1 : Int32)) C dL_refusesAny_61 (by decide) ?_
  refine x_iload_n C dL_refusesAny_62 rfl 2 rfl ?_
  refine x_bipush (v := (99 : Int32)) C dL_refusesAny_63 (by decide) ?_
  refine x_bipush (v := (9 : Int32)) C dL_refusesAny_65 (by decide) ?_
  refine x_callZw0 (n := 5) (shc := shH) (rest := []) (cells' := 3) (slots' := 18) C (List.append_nil _).symm hq wf_shH rfl hX (cT_writeRow_IO l hl9 G q m h (40 : Int32) (99 : Int32) (9 : Int32) (rx_writeRow_40_99_9 _).1 (rx_writeRow_40_99_9 _).2) (vx_cwSW 5 C.2.2.2.2.2.1 gL_refusesAny_L_told rfl rfl rfl (by decide +kernel) ⟨Nat.le_of_ble_eq_true rfl, Nat.le_of_ble_eq_true rfl⟩) rfl rfl (Nat.le_of_ble_eq_true rfl) dL_refusesAny_67 rfl rfl (Nat.le_of_ble_eq_true rfl) (Nat.le_of_ble_eq_true rfl) ?_
  refine x_bipush (v := (-11 : Int32)) C dL_refusesAny_70 (by decide) ?_
  refine x_icmp_ne (tgt := 291) C dL_refusesAny_72 (by decide) (fun w => absurd (by decide) w) (fun _ => ?_)
  refine x_aload_n C dL_refusesAny_75 rfl 0 rfl ?_
  refine x_iconst (v := (1 : Int32)) C dL_refusesAny_76 (by decide) ?_
  refine x_iconst (v := (0 : Int32)) C dL_refusesAny_77 (by decide) ?_
  refine x_iload_n C dL_refusesAny_78 rfl 1 rfl ?_
  refine x_if_eq (tgt := 86) C dL_refusesAny_79 (by decide) (fun _ => ?_) (fun w => absurd (by decide) w)
  refine x_bipush (v := (41 : Int32)) C dL_refusesAny_86 (by decide) ?_
  refine x_iconst (v := (0 : Int32)) C dL_refusesAny_88 (by decide) ?_
  refine x_callZw0 (n := 5) (shc := shH) (rest := []) (cells' := 4) (slots' := 24) C (List.append_nil _).symm hq wf_shH rfl hX (cT_writeRow_IA l hl9 G q m h (0 : Int32) (41 : Int32) (0 : Int32) (rx_writeRow_0_41_0 _).1 (rx_writeRow_0_41_0 _).2) (vx_cwSW 5 C.2.2.2.2.2.1 gL_refusesAny_L_told rfl rfl rfl (by decide +kernel) ⟨Nat.le_of_ble_eq_true rfl, Nat.le_of_ble_eq_true rfl⟩) rfl rfl (Nat.le_of_ble_eq_true rfl) dL_refusesAny_89 rfl rfl (Nat.le_of_ble_eq_true rfl) (Nat.le_of_ble_eq_true rfl) ?_
  refine x_bipush (v := (-12 : Int32)) C dL_refusesAny_92 (by decide) ?_
  refine x_icmp_ne (tgt := 291) C dL_refusesAny_94 (by decide) (fun w => absurd (by decide) w) (fun _ => ?_)
  refine x_aload_n C dL_refusesAny_97 rfl 0 rfl ?_
  refine x_iconst (v := (1 : Int32)) C dL_refusesAny_98 (by decide) ?_
  refine x_bipush (v := (39 : Int32)) C dL_refusesAny_99 (by decide) ?_
  refine x_iconst (v := (2 : Int32)) C dL_refusesAny_101 (by decide) ?_
  refine x_iconst (v := (0 : Int32)) C dL_refusesAny_102 (by decide) ?_
  refine x_callZw0 (n := 5) (shc := shH) (rest := []) (cells' := 5) (slots' := 30) C (List.append_nil _).symm hq wf_shH rfl hX (cT_writeRow_IA l hl9 G q m h (39 : Int32) (2 : Int32) (0 : Int32) (rx_writeRow_39_2_0 _).1 (rx_writeRow_39_2_0 _).2) (vx_cwSW 5 C.2.2.2.2.2.1 gL_refusesAny_L_told rfl rfl rfl (by decide +kernel) ⟨Nat.le_of_ble_eq_true rfl, Nat.le_of_ble_eq_true rfl⟩) rfl rfl (Nat.le_of_ble_eq_true rfl) dL_refusesAny_103 rfl rfl (Nat.le_of_ble_eq_true rfl) (Nat.le_of_ble_eq_true rfl) ?_
  refine x_bipush (v := (-12 : Int32)) C dL_refusesAny_106 (by decide) ?_
  refine x_icmp_ne (tgt := 291) C dL_refusesAny_108 (by decide) (fun w => absurd (by decide) w) (fun _ => ?_)
  refine x_aload_n C dL_refusesAny_111 rfl 0 rfl ?_
  refine x_iconst (v := (1 : Int32)) C dL_refusesAny_112 (by decide) ?_
  refine x_iconst (v := (3 : Int32)) C dL_refusesAny_113 (by decide) ?_
  refine x_iconst (v := (2 : Int32)) C dL_refusesAny_114 (by decide) ?_
  refine x_iload_n C dL_refusesAny_115 rfl 3 rfl ?_
  refine x_callZw0 (n := 5) (shc := shH) (rest := []) (cells' := 6) (slots' := 36) C (List.append_nil _).symm hq wf_shH rfl hX (cT_writeRow_IA l hl9 G q m h (3 : Int32) (2 : Int32) (4 : Int32) (rx_writeRow_3_2_4 _).1 (rx_writeRow_3_2_4 _).2) (vx_cwSW 5 C.2.2.2.2.2.1 gL_refusesAny_L_told rfl rfl rfl (by decide +kernel) ⟨Nat.le_of_ble_eq_true rfl, Nat.le_of_ble_eq_true rfl⟩) rfl rfl (Nat.le_of_ble_eq_true rfl) dL_refusesAny_116 rfl rfl (Nat.le_of_ble_eq_true rfl) (Nat.le_of_ble_eq_true rfl) ?_
  refine x_bipush (v := (-12 : Int32)) C dL_refusesAny_119 (by decide) ?_
  refine x_icmp_ne (tgt := 291) C dL_refusesAny_121 (by decide) (fun w => absurd (by decide) w) (fun _ => ?_)
  refine x_aload_n C dL_refusesAny_124 rfl 0 rfl ?_
  refine x_iconst (v := (2 : Int32)) C dL_refusesAny_125 (by decide) ?_
  refine x_iload_n C dL_refusesAny_126 rfl 2 rfl ?_
  refine x_iconst (v := (0 : Int32)) C dL_refusesAny_127 (by decide) ?_
  refine x_iconst (v := (0 : Int32)) C dL_refusesAny_128 (by decide) ?_
  refine x_callZw0 (n := 5) (shc := shH) (rest := []) (cells' := 7) (slots' := 42) C (List.append_nil _).symm hq wf_shH rfl hX (cT_trim_IO l hl9 G q m h (40 : Int32) (0 : Int32) (0 : Int32) (rx_trim_40 _).1 (rx_trim_40 _).2) (vx_cwSW 5 C.2.2.2.2.2.1 gL_refusesAny_L_told rfl rfl rfl (by decide +kernel) ⟨Nat.le_of_ble_eq_true rfl, Nat.le_of_ble_eq_true rfl⟩) rfl rfl (Nat.le_of_ble_eq_true rfl) dL_refusesAny_129 rfl rfl (Nat.le_of_ble_eq_true rfl) (Nat.le_of_ble_eq_true rfl) ?_
  refine x_bipush (v := (-11 : Int32)) C dL_refusesAny_132 (by decide) ?_
  refine x_icmp_ne (tgt := 291) C dL_refusesAny_134 (by decide) (fun w => absurd (by decide) w) (fun _ => ?_)
  refine x_aload_n C dL_refusesAny_137 rfl 0 rfl ?_
  refine x_iconst (v := (3 : Int32)) C dL_refusesAny_138 (by decide) ?_
  refine x_iload_n C dL_refusesAny_139 rfl 2 rfl ?_
  refine x_bipush (v := (9 : Int32)) C dL_refusesAny_140 (by decide) ?_
  refine x_iconst (v := (0 : Int32)) C dL_refusesAny_142 (by decide) ?_
  refine x_callZw0 (n := 5) (shc := shH) (rest := []) (cells' := 8) (slots' := 48) C (List.append_nil _).symm hq wf_shH rfl hX (cT_hint_IO l hl9 G q m h (40 : Int32) (9 : Int32) (0 : Int32) (rx_hint_40_9 _).1 (rx_hint_40_9 _).2) (vx_cwSW 5 C.2.2.2.2.2.1 gL_refusesAny_L_told rfl rfl rfl (by decide +kernel) ⟨Nat.le_of_ble_eq_true rfl, Nat.le_of_ble_eq_true rfl⟩) rfl rfl (Nat.le_of_ble_eq_true rfl) dL_refusesAny_143 rfl rfl (Nat.le_of_ble_eq_true rfl) (Nat.le_of_ble_eq_true rfl) ?_
  refine x_bipush (v := (-11 : Int32)) C dL_refusesAny_146 (by decide) ?_
  refine x_icmp_ne (tgt := 291) C dL_refusesAny_148 (by decide) (fun w => absurd (by decide) w) (fun _ => ?_)
  refine x_aload_n C dL_refusesAny_151 rfl 0 rfl ?_
  refine x_iconst (v := (3 : Int32)) C dL_refusesAny_152 (by decide) ?_
  refine x_iconst (v := (0 : Int32)) C dL_refusesAny_153 (by decide) ?_
  refine x_iload_n C dL_refusesAny_154 rfl 3 rfl ?_
  refine x_iconst (v := (0 : Int32)) C dL_refusesAny_155 (by decide) ?_
  refine x_callZw0 (n := 5) (shc := shH) (rest := []) (cells' := 9) (slots' := 54) C (List.append_nil _).symm hq wf_shH rfl hX (cT_hint_IA l hl9 G q m h (0 : Int32) (4 : Int32) (0 : Int32) (rx_hint_0_4 _).1 (rx_hint_0_4 _).2) (vx_cwSW 5 C.2.2.2.2.2.1 gL_refusesAny_L_told rfl rfl rfl (by decide +kernel) ⟨Nat.le_of_ble_eq_true rfl, Nat.le_of_ble_eq_true rfl⟩) rfl rfl (Nat.le_of_ble_eq_true rfl) dL_refusesAny_156 rfl rfl (Nat.le_of_ble_eq_true rfl) (Nat.le_of_ble_eq_true rfl) ?_
  refine x_bipush (v := (-12 : Int32)) C dL_refusesAny_159 (by decide) ?_
  refine x_icmp_ne (tgt := 291) C dL_refusesAny_161 (by decide) (fun w => absurd (by decide) w) (fun _ => ?_)
  refine x_aload_n C dL_refusesAny_164 rfl 0 rfl ?_
  refine x_iconst (v := (4 : Int32)) C dL_refusesAny_165 (by decide) ?_
  refine x_iload C dL_refusesAny_166 4 rfl ?_
  refine x_iconst (v := (0 : Int32)) C dL_refusesAny_168 (by decide) ?_
  refine x_iconst (v := (0 : Int32)) C dL_refusesAny_169 (by decide) ?_
  refine x_callZw0 (n := 5) (shc := shH) (rest := []) (cells' := 10) (slots' := 60) C (List.append_nil _).symm hq wf_shH rfl hX (cT_collect_IO l hl9 G q m h (12 : Int32) (0 : Int32) (0 : Int32) (rx_collect_12 _).1 (rx_collect_12 _).2) (vx_cwSW 5 C.2.2.2.2.2.1 gL_refusesAny_L_told rfl rfl rfl (by decide +kernel) ⟨Nat.le_of_ble_eq_true rfl, Nat.le_of_ble_eq_true rfl⟩) rfl rfl (Nat.le_of_ble_eq_true rfl) dL_refusesAny_170 rfl rfl (Nat.le_of_ble_eq_true rfl) (Nat.le_of_ble_eq_true rfl) ?_
  refine x_bipush (v := (-11 : Int32)) C dL_refusesAny_173 (by decide) ?_
  refine x_icmp_ne (tgt := 291) C dL_refusesAny_175 (by decide) (fun w => absurd (by decide) w) (fun _ => ?_)
  refine x_aload_n C dL_refusesAny_178 rfl 0 rfl ?_
  refine x_iconst (v := (5 : Int32)) C dL_refusesAny_179 (by decide) ?_
  refine x_iload_n C dL_refusesAny_180 rfl 1 rfl ?_
  refine x_if_eq (tgt := 188) C dL_refusesAny_181 (by decide) (fun _ => ?_) (fun w => absurd (by decide) w)
  refine x_bipush (v := (13 : Int32)) C dL_refusesAny_188 (by decide) ?_
  refine x_iconst (v := (0 : Int32)) C dL_refusesAny_190 (by decide) ?_
  refine x_iconst (v := (0 : Int32)) C dL_refusesAny_191 (by decide) ?_
  refine x_callZw0 (n := 5) (shc := shH) (rest := []) (cells' := 11) (slots' := 66) C (List.append_nil _).symm hq wf_shH rfl hX (cT_tidy_IA l hl9 G q m h (13 : Int32) (0 : Int32) (0 : Int32) (rx_tidy_13 _).1 (rx_tidy_13 _).2) (vx_cwSW 5 C.2.2.2.2.2.1 gL_refusesAny_L_told rfl rfl rfl (by decide +kernel) ⟨Nat.le_of_ble_eq_true rfl, Nat.le_of_ble_eq_true rfl⟩) rfl rfl (Nat.le_of_ble_eq_true rfl) dL_refusesAny_192 rfl rfl (Nat.le_of_ble_eq_true rfl) (Nat.le_of_ble_eq_true rfl) ?_
  refine x_bipush (v := (-12 : Int32)) C dL_refusesAny_195 (by decide) ?_
  refine x_icmp_ne (tgt := 291) C dL_refusesAny_197 (by decide) (fun w => absurd (by decide) w) (fun _ => ?_)
  refine x_aload_n C dL_refusesAny_200 rfl 0 rfl ?_
  refine x_bipush (v := (6 : Int32)) C dL_refusesAny_201 (by decide) ?_
  refine x_iload_n C dL_refusesAny_203 rfl 1 rfl ?_
  refine x_if_eq (tgt := 211) C dL_refusesAny_204 (by decide) (fun _ => ?_) (fun w => absurd (by decide) w)
  refine x_iconst (v := (2 : Int32)) C dL_refusesAny_211 (by decide) ?_
  refine x_bipush (v := (9 : Int32)) C dL_refusesAny_212 (by decide) ?_
  refine x_iconst (v := (0 : Int32)) C dL_refusesAny_214 (by decide) ?_
  refine x_callZw0 (n := 5) (shc := shH) (rest := []) (cells' := 12) (slots' := 72) C (List.append_nil _).symm hq wf_shH rfl hX (cT_set_IO l hl9 G q m h (2 : Int32) (9 : Int32) (0 : Int32) (rx_set_2_9 _).1 (rx_set_2_9 _).2) (vx_cwSW 5 C.2.2.2.2.2.1 gL_refusesAny_L_told rfl rfl rfl (by decide +kernel) ⟨Nat.le_of_ble_eq_true rfl, Nat.le_of_ble_eq_true rfl⟩) rfl rfl (Nat.le_of_ble_eq_true rfl) dL_refusesAny_215 rfl rfl (Nat.le_of_ble_eq_true rfl) (Nat.le_of_ble_eq_true rfl) ?_
  refine x_bipush (v := (-11 : Int32)) C dL_refusesAny_218 (by decide) ?_
  refine x_icmp_ne (tgt := 291) C dL_refusesAny_220 (by decide) (fun w => absurd (by decide) w) (fun _ => ?_)
  refine x_aload_n C dL_refusesAny_223 rfl 0 rfl ?_
  refine x_bipush (v := (6 : Int32)) C dL_refusesAny_224 (by decide) ?_
  refine x_iconst (v := (0 : Int32)) C dL_refusesAny_226 (by decide) ?_
  refine x_iload_n C dL_refusesAny_227 rfl 1 rfl ?_
  refine x_if_eq (tgt := 235) C dL_refusesAny_228 (by decide) (fun _ => ?_) (fun w => absurd (by decide) w)
  refine x_iconst (v := (3 : Int32)) C dL_refusesAny_235 (by decide) ?_
  refine x_iconst (v := (0 : Int32)) C dL_refusesAny_236 (by decide) ?_
  refine x_callZw0 (n := 5) (shc := shH) (rest := []) (cells' := 13) (slots' := 78) C (List.append_nil _).symm hq wf_shH rfl hX (cT_set_IA l hl9 G q m h (0 : Int32) (3 : Int32) (0 : Int32) (rx_set_0_3 _).1 (rx_set_0_3 _).2) (vx_cwSW 5 C.2.2.2.2.2.1 gL_refusesAny_L_told rfl rfl rfl (by decide +kernel) ⟨Nat.le_of_ble_eq_true rfl, Nat.le_of_ble_eq_true rfl⟩) rfl rfl (Nat.le_of_ble_eq_true rfl) dL_refusesAny_237 rfl rfl (Nat.le_of_ble_eq_true rfl) (Nat.le_of_ble_eq_true rfl) ?_
  refine x_bipush (v := (-12 : Int32)) C dL_refusesAny_240 (by decide) ?_
  refine x_icmp_ne (tgt := 291) C dL_refusesAny_242 (by decide) (fun w => absurd (by decide) w) (fun _ => ?_)
  refine x_aload_n C dL_refusesAny_245 rfl 0 rfl ?_
  refine x_bipush (v := (6 : Int32)) C dL_refusesAny_246 (by decide) ?_
  refine x_iconst (v := (1 : Int32)) C dL_refusesAny_248 (by decide) ?_
  refine x_iload_n C dL_refusesAny_249 rfl 1 rfl ?_
  refine x_if_eq (tgt := 257) C dL_refusesAny_250 (by decide) (fun _ => ?_) (fun w => absurd (by decide) w)
  refine x_iconst (v := (5 : Int32)) C dL_refusesAny_257 (by decide) ?_
  refine x_iconst (v := (0 : Int32)) C dL_refusesAny_258 (by decide) ?_
  refine x_callZw0 (n := 5) (shc := shH) (rest := []) (cells' := 14) (slots' := 84) C (List.append_nil _).symm hq wf_shH rfl hX (cT_set_IA l hl9 G q m h (1 : Int32) (5 : Int32) (0 : Int32) (rx_set_1_5 _).1 (rx_set_1_5 _).2) (vx_cwSW 5 C.2.2.2.2.2.1 gL_refusesAny_L_told rfl rfl rfl (by decide +kernel) ⟨Nat.le_of_ble_eq_true rfl, Nat.le_of_ble_eq_true rfl⟩) rfl rfl (Nat.le_of_ble_eq_true rfl) dL_refusesAny_259 rfl rfl (Nat.le_of_ble_eq_true rfl) (Nat.le_of_ble_eq_true rfl) ?_
  refine x_bipush (v := (-12 : Int32)) C dL_refusesAny_262 (by decide) ?_
  refine x_icmp_ne (tgt := 291) C dL_refusesAny_264 (by decide) (fun w => absurd (by decide) w) (fun _ => ?_)
  refine x_aload_n C dL_refusesAny_267 rfl 0 rfl ?_
  refine x_bipush (v := (7 : Int32)) C dL_refusesAny_268 (by decide) ?_
  refine x_iload_n C dL_refusesAny_270 rfl 1 rfl ?_
  refine x_if_eq (tgt := 279) C dL_refusesAny_271 (by decide) (fun _ => ?_) (fun w => absurd (by decide) w)
  refine x_bipush (v := (127 : Int32)) C dL_refusesAny_279 (by decide) ?_
  refine x_iconst (v := (0 : Int32)) C dL_refusesAny_281 (by decide) ?_
  refine x_iconst (v := (0 : Int32)) C dL_refusesAny_282 (by decide) ?_
  refine x_callZw0 (n := 5) (shc := shH) (rest := []) (cells' := 15) (slots' := 90) C (List.append_nil _).symm hq wf_shH rfl hX (cT_append_IA l hl9 G q m h (127 : Int32) (0 : Int32) (0 : Int32) (rx_append_127 _).1 (rx_append_127 _).2) (vx_cwSW 5 C.2.2.2.2.2.1 gL_refusesAny_L_told rfl rfl rfl (by decide +kernel) ⟨Nat.le_of_ble_eq_true rfl, Nat.le_of_ble_eq_true rfl⟩) rfl rfl (Nat.le_of_ble_eq_true rfl) dL_refusesAny_283 rfl rfl (Nat.le_of_ble_eq_true rfl) (Nat.le_of_ble_eq_true rfl) ?_
  refine x_bipush (v := (-12 : Int32)) C dL_refusesAny_286 (by decide) ?_
  refine x_icmp_eq (tgt := 293) C dL_refusesAny_288 (by decide) (fun _ => ?_) (fun w => absurd (by decide) w)
  refine x_aload_n C dL_refusesAny_293 rfl 0 rfl ?_
  refine x_bipush (v := (10 : Int32)) C dL_refusesAny_294 (by decide) ?_
  refine x_iload_n C dL_refusesAny_296 rfl 2 rfl ?_
  refine x_bipush (v := (9 : Int32)) C dL_refusesAny_297 (by decide) ?_
  refine x_iconst (v := (0 : Int32)) C dL_refusesAny_299 (by decide) ?_
  refine x_callZw0 (n := 5) (shc := shH) (rest := []) (cells' := 16) (slots' := 96) C (List.append_nil _).symm hq wf_shH rfl hX (cT_page_IO l hl9 G q m h (40 : Int32) (9 : Int32) (0 : Int32) (rx_page_40_9 _).1 (rx_page_40_9 _).2) (vx_cwSW 5 C.2.2.2.2.2.1 gL_refusesAny_L_told rfl rfl rfl (by decide +kernel) ⟨Nat.le_of_ble_eq_true rfl, Nat.le_of_ble_eq_true rfl⟩) rfl rfl (Nat.le_of_ble_eq_true rfl) dL_refusesAny_300 rfl rfl (Nat.le_of_ble_eq_true rfl) (Nat.le_of_ble_eq_true rfl) ?_
  refine x_bipush (v := (-11 : Int32)) C dL_refusesAny_303 (by decide) ?_
  refine x_icmp_ne (tgt := 453) C dL_refusesAny_305 (by decide) (fun w => absurd (by decide) w) (fun _ => ?_)
  refine x_aload_n C dL_refusesAny_308 rfl 0 rfl ?_
  refine x_bipush (v := (10 : Int32)) C dL_refusesAny_309 (by decide) ?_
  refine x_iconst (v := (0 : Int32)) C dL_refusesAny_311 (by decide) ?_
  refine x_iload_n C dL_refusesAny_312 rfl 1 rfl ?_
  refine x_if_eq (tgt := 320) C dL_refusesAny_313 (by decide) (fun _ => ?_) (fun w => absurd (by decide) w)
  refine x_bipush (v := (6 : Int32)) C dL_refusesAny_320 (by decide) ?_
  refine x_iconst (v := (0 : Int32)) C dL_refusesAny_322 (by decide) ?_
  refine x_callZw0 (n := 5) (shc := shH) (rest := []) (cells' := 17) (slots' := 102) C (List.append_nil _).symm hq wf_shH rfl hX (cT_page_IA l hl9 G q m h (0 : Int32) (6 : Int32) (0 : Int32) (rx_page_0_6 _).1 (rx_page_0_6 _).2) (vx_cwSW 5 C.2.2.2.2.2.1 gL_refusesAny_L_told rfl rfl rfl (by decide +kernel) ⟨Nat.le_of_ble_eq_true rfl, Nat.le_of_ble_eq_true rfl⟩) rfl rfl (Nat.le_of_ble_eq_true rfl) dL_refusesAny_323 rfl rfl (Nat.le_of_ble_eq_true rfl) (Nat.le_of_ble_eq_true rfl) ?_
  refine x_bipush (v := (-12 : Int32)) C dL_refusesAny_326 (by decide) ?_
  refine x_icmp_ne (tgt := 453) C dL_refusesAny_328 (by decide) (fun w => absurd (by decide) w) (fun _ => ?_)
  refine x_aload_n C dL_refusesAny_331 rfl 0 rfl ?_
  refine x_bipush (v := (11 : Int32)) C dL_refusesAny_332 (by decide) ?_
  refine x_iload C dL_refusesAny_334 4 rfl ?_
  refine x_bipush (v := (9 : Int32)) C dL_refusesAny_336 (by decide) ?_
  refine x_iconst (v := (0 : Int32)) C dL_refusesAny_338 (by decide) ?_
  refine x_callZw0 (n := 5) (shc := shH) (rest := []) (cells' := 18) (slots' := 108) C (List.append_nil _).symm hq wf_shH rfl hX (cT_block_IO l hl9 G q m h (12 : Int32) (9 : Int32) (0 : Int32) (rx_block_12_9 _).1 (rx_block_12_9 _).2) (vx_cwSW 5 C.2.2.2.2.2.1 gL_refusesAny_L_told rfl rfl rfl (by decide +kernel) ⟨Nat.le_of_ble_eq_true rfl, Nat.le_of_ble_eq_true rfl⟩) rfl rfl (Nat.le_of_ble_eq_true rfl) dL_refusesAny_339 rfl rfl (Nat.le_of_ble_eq_true rfl) (Nat.le_of_ble_eq_true rfl) ?_
  refine x_bipush (v := (-11 : Int32)) C dL_refusesAny_342 (by decide) ?_
  refine x_icmp_ne (tgt := 453) C dL_refusesAny_344 (by decide) (fun w => absurd (by decide) w) (fun _ => ?_)
  refine x_aload_n C dL_refusesAny_347 rfl 0 rfl ?_
  refine x_bipush (v := (11 : Int32)) C dL_refusesAny_348 (by decide) ?_
  refine x_iconst (v := (0 : Int32)) C dL_refusesAny_350 (by decide) ?_
  refine x_iload_n C dL_refusesAny_351 rfl 1 rfl ?_
  refine x_if_eq (tgt := 359) C dL_refusesAny_352 (by decide) (fun _ => ?_) (fun w => absurd (by decide) w)
  refine x_bipush (v := (8 : Int32)) C dL_refusesAny_359 (by decide) ?_
  refine x_iconst (v := (0 : Int32)) C dL_refusesAny_361 (by decide) ?_
  refine x_callZw0 (n := 5) (shc := shH) (rest := []) (cells' := 19) (slots' := 114) C (List.append_nil _).symm hq wf_shH rfl hX (cT_block_IA l hl9 G q m h (0 : Int32) (8 : Int32) (0 : Int32) (rx_block_0_8 _).1 (rx_block_0_8 _).2) (vx_cwSW 5 C.2.2.2.2.2.1 gL_refusesAny_L_told rfl rfl rfl (by decide +kernel) ⟨Nat.le_of_ble_eq_true rfl, Nat.le_of_ble_eq_true rfl⟩) rfl rfl (Nat.le_of_ble_eq_true rfl) dL_refusesAny_362 rfl rfl (Nat.le_of_ble_eq_true rfl) (Nat.le_of_ble_eq_true rfl) ?_
  refine x_bipush (v := (-12 : Int32)) C dL_refusesAny_365 (by decide) ?_
  refine x_icmp_ne (tgt := 453) C dL_refusesAny_367 (by decide) (fun w => absurd (by decide) w) (fun _ => ?_)
  refine x_aload_n C dL_refusesAny_370 rfl 0 rfl ?_
  refine x_bipush (v := (12 : Int32)) C dL_refusesAny_371 (by decide) ?_
  refine x_iload C dL_refusesAny_373 4 rfl ?_
  refine x_iconst (v := (0 : Int32)) C dL_refusesAny_375 (by decide) ?_
  refine x_iconst (v := (1 : Int32)) C dL_refusesAny_376 (by decide) ?_
  refine x_callZw0 (n := 5) (shc := shH) (rest := []) (cells' := 20) (slots' := 120) C (List.append_nil _).symm hq wf_shH rfl hX (cT_slot1_IO l hl9 G q m h (12 : Int32) (0 : Int32) (1 : Int32) (rx_slot_12_0_1 _).1 (rx_slot_12_0_1 _).2) (vx_cwSW 5 C.2.2.2.2.2.1 gL_refusesAny_L_told rfl rfl rfl (by decide +kernel) ⟨Nat.le_of_ble_eq_true rfl, Nat.le_of_ble_eq_true rfl⟩) rfl rfl (Nat.le_of_ble_eq_true rfl) dL_refusesAny_377 rfl rfl (Nat.le_of_ble_eq_true rfl) (Nat.le_of_ble_eq_true rfl) ?_
  refine x_bipush (v := (-11 : Int32)) C dL_refusesAny_380 (by decide) ?_
  refine x_icmp_ne (tgt := 453) C dL_refusesAny_382 (by decide) (fun w => absurd (by decide) w) (fun _ => ?_)
  refine x_aload_n C dL_refusesAny_385 rfl 0 rfl ?_
  refine x_bipush (v := (12 : Int32)) C dL_refusesAny_386 (by decide) ?_
  refine x_iconst (v := (0 : Int32)) C dL_refusesAny_388 (by decide) ?_
  refine x_iload_n C dL_refusesAny_389 rfl 1 rfl ?_
  refine x_if_eq (tgt := 397) C dL_refusesAny_390 (by decide) (fun _ => ?_) (fun w => absurd (by decide) w)
  refine x_bipush (v := (8 : Int32)) C dL_refusesAny_397 (by decide) ?_
  refine x_iconst (v := (0 : Int32)) C dL_refusesAny_399 (by decide) ?_
  refine x_callZw0 (n := 5) (shc := shH) (rest := []) (cells' := 21) (slots' := 126) C (List.append_nil _).symm hq wf_shH rfl hX (cT_slot0_IO l hl9 G q m h (0 : Int32) (8 : Int32) (0 : Int32) (rx_slot_0_8_0 _).1 (rx_slot_0_8_0 _).2) (vx_cwSW 5 C.2.2.2.2.2.1 gL_refusesAny_L_told rfl rfl rfl (by decide +kernel) ⟨Nat.le_of_ble_eq_true rfl, Nat.le_of_ble_eq_true rfl⟩) rfl rfl (Nat.le_of_ble_eq_true rfl) dL_refusesAny_400 rfl rfl (Nat.le_of_ble_eq_true rfl) (Nat.le_of_ble_eq_true rfl) ?_
  refine x_bipush (v := (-11 : Int32)) C dL_refusesAny_403 (by decide) ?_
  refine x_icmp_ne (tgt := 453) C dL_refusesAny_405 (by decide) (fun w => absurd (by decide) w) (fun _ => ?_)
  refine x_aload_n C dL_refusesAny_408 rfl 0 rfl ?_
  refine x_bipush (v := (13 : Int32)) C dL_refusesAny_409 (by decide) ?_
  refine x_iload_n C dL_refusesAny_411 rfl 1 rfl ?_
  refine x_if_eq (tgt := 419) C dL_refusesAny_412 (by decide) (fun _ => ?_) (fun w => absurd (by decide) w)
  refine x_iconst (v := (5 : Int32)) C dL_refusesAny_419 (by decide) ?_
  refine x_bipush (v := (9 : Int32)) C dL_refusesAny_420 (by decide) ?_
  refine x_iconst (v := (0 : Int32)) C dL_refusesAny_422 (by decide) ?_
  refine x_callZw0 (n := 5) (shc := shH) (rest := []) (cells' := 22) (slots' := 132) C (List.append_nil _).symm hq wf_shH rfl hX (cT_stream_IO l hl9 G q m h (5 : Int32) (9 : Int32) (0 : Int32) (rx_stream_5_9 _).1 (rx_stream_5_9 _).2) (vx_cwSW 5 C.2.2.2.2.2.1 gL_refusesAny_L_told rfl rfl rfl (by decide +kernel) ⟨Nat.le_of_ble_eq_true rfl, Nat.le_of_ble_eq_true rfl⟩) rfl rfl (Nat.le_of_ble_eq_true rfl) dL_refusesAny_423 rfl rfl (Nat.le_of_ble_eq_true rfl) (Nat.le_of_ble_eq_true rfl) ?_
  refine x_bipush (v := (-11 : Int32)) C dL_refusesAny_426 (by decide) ?_
  refine x_icmp_ne (tgt := 453) C dL_refusesAny_428 (by decide) (fun w => absurd (by decide) w) (fun _ => ?_)
  refine x_aload_n C dL_refusesAny_431 rfl 0 rfl ?_
  refine x_bipush (v := (13 : Int32)) C dL_refusesAny_432 (by decide) ?_
  refine x_iconst (v := (0 : Int32)) C dL_refusesAny_434 (by decide) ?_
  refine x_iload_n C dL_refusesAny_435 rfl 1 rfl ?_
  refine x_if_eq (tgt := 443) C dL_refusesAny_436 (by decide) (fun _ => ?_) (fun w => absurd (by decide) w)
  refine x_iconst (v := (5 : Int32)) C dL_refusesAny_443 (by decide) ?_
  refine x_iconst (v := (0 : Int32)) C dL_refusesAny_444 (by decide) ?_
  refine x_callZw0 (n := 5) (shc := shH) (rest := []) (cells' := 23) (slots' := 138) C (List.append_nil _).symm hq wf_shH rfl hX (cT_stream_IA l hl9 G q m h (0 : Int32) (5 : Int32) (0 : Int32) (rx_stream_0_5 _).1 (rx_stream_0_5 _).2) (vx_cwSW 5 C.2.2.2.2.2.1 gL_refusesAny_L_told rfl rfl rfl (by decide +kernel) ⟨Nat.le_of_ble_eq_true rfl, Nat.le_of_ble_eq_true rfl⟩) rfl rfl (Nat.le_of_ble_eq_true rfl) dL_refusesAny_445 rfl rfl (Nat.le_of_ble_eq_true rfl) (Nat.le_of_ble_eq_true rfl) ?_
  refine x_bipush (v := (-12 : Int32)) C dL_refusesAny_448 (by decide) ?_
  refine x_icmp_eq (tgt := 455) C dL_refusesAny_450 (by decide) (fun _ => ?_) (fun w => absurd (by decide) w)
  refine x_aload_n C dL_refusesAny_455 rfl 0 rfl ?_
  refine x_bipush (v := (14 : Int32)) C dL_refusesAny_456 (by decide) ?_
  refine x_iload_n C dL_refusesAny_458 rfl 1 rfl ?_
  refine x_if_eq (tgt := 466) C dL_refusesAny_459 (by decide) (fun _ => ?_) (fun w => absurd (by decide) w)
  refine x_bipush (v := (12 : Int32)) C dL_refusesAny_466 (by decide) ?_
  refine x_iconst (v := (0 : Int32)) C dL_refusesAny_468 (by decide) ?_
  refine x_iconst (v := (0 : Int32)) C dL_refusesAny_469 (by decide) ?_
  refine x_callZw0 (n := 5) (shc := shH) (rest := []) (cells' := 24) (slots' := 144) C (List.append_nil _).symm hq wf_shH rfl hX (cT_count_IA l hl9 G q m h (12 : Int32) (0 : Int32) (0 : Int32) (rx_count_12 _).1 (rx_count_12 _).2) (vx_cwSW 5 C.2.2.2.2.2.1 gL_refusesAny_L_told rfl rfl rfl (by decide +kernel) ⟨Nat.le_of_ble_eq_true rfl, Nat.le_of_ble_eq_true rfl⟩) rfl rfl (Nat.le_of_ble_eq_true rfl) dL_refusesAny_470 rfl rfl (Nat.le_of_ble_eq_true rfl) (Nat.le_of_ble_eq_true rfl) ?_
  refine x_bipush (v := (-12 : Int32)) C dL_refusesAny_473 (by decide) ?_
  refine x_icmp_ne (tgt := 602) C dL_refusesAny_475 (by decide) (fun w => absurd (by decide) w) (fun _ => ?_)
  refine x_aload_n C dL_refusesAny_478 rfl 0 rfl ?_
  refine x_bipush (v := (15 : Int32)) C dL_refusesAny_479 (by decide) ?_
  refine x_iload_n C dL_refusesAny_481 rfl 1 rfl ?_
  refine x_if_eq (tgt := 489) C dL_refusesAny_482 (by decide) (fun _ => ?_) (fun w => absurd (by decide) w)
  refine x_iconst (v := (2 : Int32)) C dL_refusesAny_489 (by decide) ?_
  refine x_iconst (v := (0 : Int32)) C dL_refusesAny_490 (by decide) ?_
  refine x_iconst (v := (0 : Int32)) C dL_refusesAny_491 (by decide) ?_
  refine x_callZw0 (n := 5) (shc := shH) (rest := []) (cells' := 25) (slots' := 150) C (List.append_nil _).symm hq wf_shH rfl hX (cT_setting_IO l hl9 G q m h (2 : Int32) (0 : Int32) (0 : Int32) (rx_setting_2 _).1 (rx_setting_2 _).2) (vx_cwSW 5 C.2.2.2.2.2.1 gL_refusesAny_L_told rfl rfl rfl (by decide +kernel) ⟨Nat.le_of_ble_eq_true rfl, Nat.le_of_ble_eq_true rfl⟩) rfl rfl (Nat.le_of_ble_eq_true rfl) dL_refusesAny_492 rfl rfl (Nat.le_of_ble_eq_true rfl) (Nat.le_of_ble_eq_true rfl) ?_
  refine x_bipush (v := (-11 : Int32)) C dL_refusesAny_495 (by decide) ?_
  refine x_icmp_ne (tgt := 602) C dL_refusesAny_497 (by decide) (fun w => absurd (by decide) w) (fun _ => ?_)
  refine x_aload_n C dL_refusesAny_500 rfl 0 rfl ?_
  refine x_bipush (v := (16 : Int32)) C dL_refusesAny_501 (by decide) ?_
  refine x_iload_n C dL_refusesAny_503 rfl 2 rfl ?_
  refine x_bipush (v := (9 : Int32)) C dL_refusesAny_504 (by decide) ?_
  refine x_bipush (v := (9 : Int32)) C dL_refusesAny_506 (by decide) ?_
  refine x_callZw0 (n := 5) (shc := shH) (rest := []) (cells' := 26) (slots' := 156) C (List.append_nil _).symm hq wf_shH rfl hX (cT_ifWritten_IO l hl9 G q m h (40 : Int32) (9 : Int32) (9 : Int32) (rx_ifWritten_40_9_9 _).1 (rx_ifWritten_40_9_9 _).2) (vx_cwSW 5 C.2.2.2.2.2.1 gL_refusesAny_L_told rfl rfl rfl (by decide +kernel) ⟨Nat.le_of_ble_eq_true rfl, Nat.le_of_ble_eq_true rfl⟩) rfl rfl (Nat.le_of_ble_eq_true rfl) dL_refusesAny_508 rfl rfl (Nat.le_of_ble_eq_true rfl) (Nat.le_of_ble_eq_true rfl) ?_
  refine x_bipush (v := (-11 : Int32)) C dL_refusesAny_511 (by decide) ?_
  refine x_icmp_ne (tgt := 602) C dL_refusesAny_513 (by decide) (fun w => absurd (by decide) w) (fun _ => ?_)
  refine x_aload_n C dL_refusesAny_516 rfl 0 rfl ?_
  refine x_bipush (v := (16 : Int32)) C dL_refusesAny_517 (by decide) ?_
  refine x_iconst (v := (0 : Int32)) C dL_refusesAny_519 (by decide) ?_
  refine x_iload_n C dL_refusesAny_520 rfl 3 rfl ?_
  refine x_iconst (v := (0 : Int32)) C dL_refusesAny_521 (by decide) ?_
  refine x_callZw0 (n := 5) (shc := shH) (rest := []) (cells' := 27) (slots' := 162) C (List.append_nil _).symm hq wf_shH rfl hX (cT_ifWritten_IA l hl9 G q m h (0 : Int32) (4 : Int32) (0 : Int32) (rx_ifWritten_0_4_0 _).1 (rx_ifWritten_0_4_0 _).2) (vx_cwSW 5 C.2.2.2.2.2.1 gL_refusesAny_L_told rfl rfl rfl (by decide +kernel) ⟨Nat.le_of_ble_eq_true rfl, Nat.le_of_ble_eq_true rfl⟩) rfl rfl (Nat.le_of_ble_eq_true rfl) dL_refusesAny_522 rfl rfl (Nat.le_of_ble_eq_true rfl) (Nat.le_of_ble_eq_true rfl) ?_
  refine x_bipush (v := (-12 : Int32)) C dL_refusesAny_525 (by decide) ?_
  refine x_icmp_ne (tgt := 602) C dL_refusesAny_527 (by decide) (fun w => absurd (by decide) w) (fun _ => ?_)
  refine x_aload_n C dL_refusesAny_530 rfl 0 rfl ?_
  refine x_bipush (v := (16 : Int32)) C dL_refusesAny_531 (by decide) ?_
  refine x_iconst (v := (0 : Int32)) C dL_refusesAny_533 (by decide) ?_
  refine x_iconst (v := (0 : Int32)) C dL_refusesAny_534 (by decide) ?_
  refine x_iload_n C dL_refusesAny_535 rfl 1 rfl ?_
  refine x_if_eq (tgt := 543) C dL_refusesAny_536 (by decide) (fun _ => ?_) (fun w => absurd (by decide) w)
  refine x_iconst (v := (3 : Int32)) C dL_refusesAny_543 (by decide) ?_
  refine x_callZw0 (n := 5) (shc := shH) (rest := []) (cells' := 28) (slots' := 168) C (List.append_nil _).symm hq wf_shH rfl hX (cT_ifWritten_IA l hl9 G q m h (0 : Int32) (0 : Int32) (3 : Int32) (rx_ifWritten_0_0_3 _).1 (rx_ifWritten_0_0_3 _).2) (vx_cwSW 5 C.2.2.2.2.2.1 gL_refusesAny_L_told rfl rfl rfl (by decide +kernel) ⟨Nat.le_of_ble_eq_true rfl, Nat.le_of_ble_eq_true rfl⟩) rfl rfl (Nat.le_of_ble_eq_true rfl) dL_refusesAny_544 rfl rfl (Nat.le_of_ble_eq_true rfl) (Nat.le_of_ble_eq_true rfl) ?_
  refine x_bipush (v := (-12 : Int32)) C dL_refusesAny_547 (by decide) ?_
  refine x_icmp_ne (tgt := 602) C dL_refusesAny_549 (by decide) (fun w => absurd (by decide) w) (fun _ => ?_)
  refine x_aload_n C dL_refusesAny_552 rfl 0 rfl ?_
  refine x_bipush (v := (17 : Int32)) C dL_refusesAny_553 (by decide) ?_
  refine x_iload_n C dL_refusesAny_555 rfl 1 rfl ?_
  refine x_if_eq (tgt := 563) C dL_refusesAny_556 (by decide) (fun _ => ?_) (fun w => absurd (by decide) w)
  refine x_bipush (v := (10 : Int32)) C dL_refusesAny_563 (by decide) ?_
  refine x_iconst (v := (0 : Int32)) C dL_refusesAny_565 (by decide) ?_
  refine x_iconst (v := (0 : Int32)) C dL_refusesAny_566 (by decide) ?_
  refine x_callZw0 (n := 5) (shc := shH) (rest := []) (cells' := 29) (slots' := 174) C (List.append_nil _).symm hq wf_shH rfl hX (cT_ifRewritten_IA l hl9 G q m h (10 : Int32) (0 : Int32) (0 : Int32) (rx_ifRewritten_10 _).1 (rx_ifRewritten_10 _).2) (vx_cwSW 5 C.2.2.2.2.2.1 gL_refusesAny_L_told rfl rfl rfl (by decide +kernel) ⟨Nat.le_of_ble_eq_true rfl, Nat.le_of_ble_eq_true rfl⟩) rfl rfl (Nat.le_of_ble_eq_true rfl) dL_refusesAny_567 rfl rfl (Nat.le_of_ble_eq_true rfl) (Nat.le_of_ble_eq_true rfl) ?_
  refine x_bipush (v := (-12 : Int32)) C dL_refusesAny_570 (by decide) ?_
  refine x_icmp_ne (tgt := 602) C dL_refusesAny_572 (by decide) (fun w => absurd (by decide) w) (fun _ => ?_)
  refine x_aload_n C dL_refusesAny_575 rfl 0 rfl ?_
  refine x_bipush (v := (18 : Int32)) C dL_refusesAny_576 (by decide) ?_
  refine x_iload_n C dL_refusesAny_578 rfl 1 rfl ?_
  refine x_if_eq (tgt := 586) C dL_refusesAny_579 (by decide) (fun _ => ?_) (fun w => absurd (by decide) w)
  refine x_bipush (v := (10 : Int32)) C dL_refusesAny_586 (by decide) ?_
  refine x_iconst (v := (0 : Int32)) C dL_refusesAny_588 (by decide) ?_
  refine x_iconst (v := (0 : Int32)) C dL_refusesAny_589 (by decide) ?_
  refine x_callZw0 (n := 5) (shc := shH) (rest := []) (cells' := 30) (slots' := 180) C (List.append_nil _).symm hq wf_shH rfl hX (cT_bestRule_IA l hl9 G q m h (10 : Int32) (0 : Int32) (0 : Int32) (rx_bestRule_10 _).1 (rx_bestRule_10 _).2) (vx_cwSW 5 C.2.2.2.2.2.1 gL_refusesAny_L_told rfl rfl rfl (by decide +kernel) ⟨Nat.le_of_ble_eq_true rfl, Nat.le_of_ble_eq_true rfl⟩) rfl rfl (Nat.le_of_ble_eq_true rfl) dL_refusesAny_590 rfl rfl (Nat.le_of_ble_eq_true rfl) (Nat.le_of_ble_eq_true rfl) ?_
  refine x_bipush (v := (-12 : Int32)) C dL_refusesAny_593 (by decide) ?_
  refine x_icmp_ne (tgt := 602) C dL_refusesAny_595 (by decide) (fun w => absurd (by decide) w) (fun _ => ?_)
  refine x_iconst (v := (1 : Int32)) C dL_refusesAny_598 (by decide) ?_
  refine x_goto (tgt := 603) C dL_refusesAny_599 (by decide) ?_
  exact g_sret C hr (by decide) dL_refusesAny_603 rfl rfl rfl (Nat.le_of_ble_eq_true rfl) (Nat.le_of_ble_eq_true rfl)
abbrev rmRF : Room := { frames := 10, cells := 60, slots := 360, locals := 214 }
set_option maxRecDepth 100000 in
set_option maxHeartbeats 4000000 in
theorem c_l_refused (l : Launch) (hl9 : l.stackTraces = false) (G : gG) (q : Nat → Nat) (m : gM) (h : gN) (hs : o_l_seen m) (hc : o_h_count m 11) : gMs l yL_refused wsL_refused rmRF G shH q m h [.ref (q 0)] m h 1 60 360 := by
  intro sz
  refine g_metz (cc := cL_refused) (maxL := 4) (ret := (some .boolean)) (own := RL) (Qc := fun sz => gQi G shH q m h sz 1) (by decide) rfl rfl (Nat.le_of_ble_eq_true rfl) (fun p e s m9 below meth c C hq hX hr => ?_)
  refine x_lv (lv' := [(0, .ref (q 0))]) [0] rfl ?_
  refine x_aload_n C dL_refused_0 rfl 0 rfl ?_
  refine x_callSl (n := 1) C hq gFr_same (c_l_seen l G q m h hs) (va_cwS 1 C.2.2.2.2.2.1 gL_refused_L_seen rfl rfl rfl (by decide +kernel) ⟨Nat.le_of_ble_eq_true rfl, Nat.le_of_ble_eq_true rfl⟩) rfl rfl (Nat.le_of_ble_eq_true rfl) dL_refused_1 (Nat.le_of_ble_eq_true rfl) (Nat.le_of_ble_eq_true rfl) ?_
  refine x_lstore_n (lv' := [(0, .ref (q 0)), (1, .long (f_l_seen m))]) C dL_refused_4 rfl (by decide) [1, 0] rfl ?_
  refine x_aload_n C dL_refused_5 rfl 0 rfl ?_
  refine x_bipush (v := (11 : Int32)) C dL_refused_6 (by decide) ?_
  refine x_callVi (n := 1) C hq gFr_same (c_h_count l G q m h (11 : Int32) hc) (cwV 1 C.2.2.2.2.2.1 gL_refused_X2_count rfl rfl rfl (by decide +kernel) ⟨Nat.le_of_ble_eq_true rfl, Nat.le_of_ble_eq_true rfl⟩) rfl rfl rfl rfl (Nat.le_of_ble_eq_true rfl) dL_refused_8 (Nat.le_of_ble_eq_true rfl) (Nat.le_of_ble_eq_true rfl) ?_
  refine x_istore_n (lv' := [(0, .ref (q 0)), (1, .long (f_l_seen m)), (3, .int (f_h_count m 11))]) C dL_refused_11 rfl (by decide) [1, 2, 0] rfl ?_
  refine x_aload_n C dL_refused_12 rfl 0 rfl ?_
  refine x_iconst (v := (1 : Int32)) C dL_refused_13 (by decide) ?_
  refine x_callZ0 (n := 2) (shc := shH) (rest := []) (cells' := 30) (slots' := 180) C (List.append_nil _).symm hq wf_shH rfl hX (c_l_refusesAny_1 l hl9 G q m h) (va_cwS 2 C.2.2.2.2.2.1 gL_refused_L_refusesAny rfl rfl rfl (by decide +kernel) ⟨Nat.le_of_ble_eq_true rfl, Nat.le_of_ble_eq_true rfl⟩) rfl rfl (Nat.le_of_ble_eq_true rfl) dL_refused_14 rfl rfl (Nat.le_of_ble_eq_true rfl) (Nat.le_of_ble_eq_true rfl) ?_
  refine x_if_eq (tgt := 51) C dL_refused_17 (by decide) (fun w => absurd w (by decide)) (fun _ => ?_)
  refine x_aload_n C dL_refused_20 rfl 0 rfl ?_
  refine x_iconst (v := (0 : Int32)) C dL_refused_21 (by decide) ?_
  refine x_callZ0 (n := 2) (shc := shH) (rest := []) (cells' := 60) (slots' := 360) C (List.append_nil _).symm hq wf_shH rfl hX (c_l_refusesAny_0 l hl9 G q m h) (va_cwS 2 C.2.2.2.2.2.1 gL_refused_L_refusesAny rfl rfl rfl (by decide +kernel) ⟨Nat.le_of_ble_eq_true rfl, Nat.le_of_ble_eq_true rfl⟩) rfl rfl (Nat.le_of_ble_eq_true rfl) dL_refused_22 rfl rfl (Nat.le_of_ble_eq_true rfl) (Nat.le_of_ble_eq_true rfl) ?_
  refine x_if_eq (tgt := 51) C dL_refused_25 (by decide) (fun w => absurd w (by decide)) (fun _ => ?_)
  refine x_aload_n C dL_refused_28 rfl 0 rfl ?_
  refine x_callSl (n := 1) C hq gFr_same (c_l_seen l G q m h hs) (va_cwS 1 C.2.2.2.2.2.1 gL_refused_L_seen rfl rfl rfl (by decide +kernel) ⟨Nat.le_of_ble_eq_true rfl, Nat.le_of_ble_eq_true rfl⟩) rfl rfl (Nat.le_of_ble_eq_true rfl) dL_refused_29 (Nat.le_of_ble_eq_true rfl) (Nat.le_of_ble_eq_true rfl) ?_
  refine x_lload_n C dL_refused_32 rfl 1 rfl ?_
  refine x_lcmp C dL_refused_33 ?_
  refine x_topi (z := (0 : Int32)) (lg_same _).symm ?_
  refine x_if_ne (tgt := 51) C dL_refused_34 (by decide) (fun w => absurd (by decide) w) (fun _ => ?_)
  refine x_aload_n C dL_refused_37 rfl 0 rfl ?_
  refine x_bipush (v := (11 : Int32)) C dL_refused_38 (by decide) ?_
  refine x_callVi (n := 1) C hq gFr_same (c_h_count l G q m h (11 : Int32) hc) (cwV 1 C.2.2.2.2.2.1 gL_refused_X2_count rfl rfl rfl (by decide +kernel) ⟨Nat.le_of_ble_eq_true rfl, Nat.le_of_ble_eq_true rfl⟩) rfl rfl rfl rfl (Nat.le_of_ble_eq_true rfl) dL_refused_40 (Nat.le_of_ble_eq_true rfl) (Nat.le_of_ble_eq_true rfl) ?_
  refine x_iload_n C dL_refused_43 rfl 2 rfl ?_
  refine x_icmp_ne (tgt := 51) C dL_refused_44 (by decide) (fun w => absurd rfl w) (fun _ => ?_)
  refine x_iconst (v := (1 : Int32)) C dL_refused_47 (by decide) ?_
  refine x_goto (tgt := 52) C dL_refused_48 (by decide) ?_
  exact g_sret C hr (by decide) dL_refused_52 rfl rfl rfl (Nat.le_of_ble_eq_true rfl) (Nat.le_of_ble_eq_true rfl)
