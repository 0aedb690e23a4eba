theorem t_ends {lc mc bc : Nat} {N G : Nat → Nat → Int32} {x : Int32} (n : Nat) : ∀ (k : Nat) {E : String}, c_ends lc mc bc N G x n k = .inl E → E = "java/lang/UnsupportedOperationException" ∨ E = "java/lang/IllegalStateException" := by
  induction n with
  | zero => intro k E h; rw [c_ends] at h; cases h; exact Or.inr rfl
  | succ n ih =>
    intro k E h
    rw [c_ends] at h
    cases hq : c_X3_layerAt lc mc bc N G (c_X3_layerShown lc mc bc N G (c_X3_placeOf (c_lnk lc mc bc N G x k))) with
    | none => rw [ocase_n hq] at h; cases h
    | some i =>
      rw [ocase_s hq] at h
      split at h
      · split at h
        · cases h; exact Or.inl rfl
        · exact ih _ h
      · cases h
theorem t_X3_endOfLinks {lc mc bc : Nat} {N G : Nat → Nat → Int32} {x : Int32} {E : String} (h : c_X3_endOfLinks lc mc bc N G x = .inl E) : E = "java/lang/UnsupportedOperationException" ∨ E = "java/lang/IllegalStateException" := t_ends 5 0 h
theorem t_X3_checkedMount {lc mc bc : Nat} {N G : Nat → Nat → Int32} {x : Int32} {E : String} (h : c_X3_checkedMount lc mc bc N G x = .inl E) : E = "java/lang/IndexOutOfBoundsException" := by
  unfold c_X3_checkedMount at h
  cases h1 : (c_X3_mountThere lc mc bc N G x) with
  | none =>
    rw [ocase_n h1] at h
    cases h; exact rfl
  | some i_2 =>
    rw [ocase_s h1] at h
    cases h
theorem t_X3_unmount {lc mc bc : Nat} {N G : Nat → Nat → Int32} {x : Int32} {E : String} (h : c_X3_unmount lc mc bc N G x = .inl E) : E = "java/lang/IndexOutOfBoundsException" := by
  unfold c_X3_unmount at h
  cases h1 : (c_X3_checkedMount lc mc bc N G x) with
  | inl E_2 =>
    rw [scase_l h1] at h
    cases h
    exact (t_X3_checkedMount h1)
  | inr x_3 =>
    rw [scase_r h1] at h
    cases h
theorem t_X3_checkedPlace {x : Int32} {E : String} (h : c_X3_checkedPlace x = .inl E) : E = "java/lang/IllegalArgumentException" := by
  unfold c_X3_checkedPlace at h
  by_cases h1 : (c_X3_placeOf x) = (-1)
  · rw [if_pos h1] at h
    cases h; exact rfl
  · rw [if_neg h1] at h
    cases h
theorem t_X3_move {lc mc bc : Nat} {N G : Nat → Nat → Int32} {x : Int32} {y : Int32} {E : String} (h : c_X3_move lc mc bc N G x y = .inl E) : E = "java/lang/IndexOutOfBoundsException" ∨ E = "java/lang/IllegalArgumentException" := by
  unfold c_X3_move at h
  cases h1 : (c_X3_checkedMount lc mc bc N G x) with
  | inl E_2 =>
    rw [scase_l h1] at h
    cases h
    exact (Or.inl (t_X3_checkedMount h1))
  | inr x_3 =>
    rw [scase_r h1] at h
    cases h2 : (c_X3_checkedPlace y) with
    | inl E_5 =>
      rw [scase_l h2] at h
      cases h
      exact (Or.inr (t_X3_checkedPlace h2))
    | inr x_6 =>
      rw [scase_r h2] at h
      cases h
theorem t_X3_setCrossing {lc mc bc : Nat} {N G : Nat → Nat → Int32} {x : Int32} {b : Int32} {E : String} (h : c_X3_setCrossing lc mc bc N G x b = .inl E) : E = "java/lang/IndexOutOfBoundsException" := by
  unfold c_X3_setCrossing at h
  cases h1 : (c_X3_checkedMount lc mc bc N G x) with
  | inl E_2 =>
    rw [scase_l h1] at h
    cases h
    exact (t_X3_checkedMount h1)
  | inr x_3 =>
    rw [scase_r h1] at h
    cases h
theorem t_X3_served {lc mc bc : Nat} {N G : Nat → Nat → Int32} {x : Int32} {E : String} (h : c_X3_served lc mc bc N G x = .inl E) : E = "java/lang/IllegalArgumentException" ∨ E = "java/util/NoSuchElementException" := by
  unfold c_X3_served at h
  cases h1 : (c_X3_checkedPlace x) with
  | inl E_2 =>
    rw [scase_l h1] at h
    cases h
    exact (Or.inl (t_X3_checkedPlace h1))
  | inr x_3 =>
    rw [scase_r h1] at h
    by_cases h2 : (c_X3_serverAt lc mc bc N G x_3) = (-1)
    · rw [if_pos h2] at h
      cases h; exact (Or.inr rfl)
    · rw [if_neg h2] at h
      cases h
theorem t_X3_checkOwner {x : Int32} {E : String} (h : c_X3_checkOwner x = .inl E) : E = "java/lang/IllegalArgumentException" := by
  unfold c_X3_checkOwner at h
  by_cases h1 : (c_X3_isOwner x) = 0
  · rw [if_pos h1] at h
    cases h; exact rfl
  · rw [if_neg h1] at h
    cases h
theorem t_X3_layerToWrite {lc mc bc : Nat} {N G : Nat → Nat → Int32} {x : Int32} {E : String} (h : c_X3_layerToWrite lc mc bc N G x = .inl E) : E = "java/util/NoSuchElementException" := by
  unfold c_X3_layerToWrite at h
  cases h1 : (c_X3_mountThere lc mc bc N G (c_X3_serverAt lc mc bc N G x)) with
  | none =>
    rw [ocase_n h1] at h
    cases h; exact rfl
  | some i_2 =>
    rw [ocase_s h1] at h
    cases h2 : (c_X3_layerAt lc mc bc N G (c_X2_written lc mc bc N G i_2)) with
    | none =>
      rw [ocase_n h2] at h
      cases h; exact rfl
    | some i_4 =>
      rw [ocase_s h2] at h
      by_cases h3 : (c_X3_restAt lc mc bc N G x) = 0
      · rw [if_pos h3] at h
        cases h; exact rfl
      · rw [if_neg h3] at h
        cases h
theorem t_X3_write {lc mc bc : Nat} {N G : Nat → Nat → Int32} {x : Int32} {y : Int32} {v : Int32} {E : String} (h : c_X3_write lc mc bc N G x y v = .inl E) : E = "java/lang/IllegalArgumentException" ∨ E = "java/util/NoSuchElementException" ∨ E = "java/lang/UnsupportedOperationException" := by
  unfold c_X3_write at h
  cases h1 : (c_X3_checkOwner x) with
  | inl E_2 =>
    rw [scase_l h1] at h
    cases h
    exact (Or.inl (t_X3_checkOwner h1))
  | inr _ =>
    rw [scase_r h1] at h
    by_cases h2 : v < 0
    · rw [if_pos h2] at h
      cases h; exact (Or.inl rfl)
    · rw [if_neg h2] at h
      by_cases h3 : v ≤ 9999
      · rw [if_pos h3] at h
        cases h4 : (c_X3_checkedPlace y) with
        | inl E_7 =>
          rw [scase_l h4] at h
          cases h
          exact (Or.inl (t_X3_checkedPlace h4))
        | inr x_8 =>
          rw [scase_r h4] at h
          cases h5 : (c_X3_layerToWrite lc mc bc N G x_8) with
          | inl E_10 =>
            rw [scase_l h5] at h
            cases h
            exact (Or.inr (Or.inl (t_X3_layerToWrite h5)))
          | inr x_11 =>
            rw [scase_r h5] at h
            by_cases h6 : (((c_X3_usedBy lc mc bc N G x) - (c_X1_bytesOfOwnerAt lc mc bc N G x_11 x (c_X3_restAt lc mc bc N G x_8))) + v) ≤ (c_X3_quotaOf lc mc bc N G x)
            · rw [if_pos h6] at h
              cases h
            · rw [if_neg h6] at h
              cases h; exact (Or.inr (Or.inr rfl))
      · rw [if_neg h3] at h
        cases h; exact (Or.inl rfl)
theorem t_X3_link {lc mc bc : Nat} {N G : Nat → Nat → Int32} {x : Int32} {y : Int32} {v : Int32} {E : String} (h : c_X3_link lc mc bc N G x y v = .inl E) : E = "java/lang/IllegalArgumentException" ∨ E = "java/util/NoSuchElementException" := by
  unfold c_X3_link at h
  cases h1 : (c_X3_checkOwner x) with
  | inl E_2 =>
    rw [scase_l h1] at h
    cases h
    exact (Or.inl (t_X3_checkOwner h1))
  | inr _ =>
    rw [scase_r h1] at h
    cases h2 : (c_X3_checkedPlace y) with
    | inl E_5 =>
      rw [scase_l h2] at h
      cases h
      exact (Or.inl (t_X3_checkedPlace h2))
    | inr x_6 =>
      rw [scase_r h2] at h
      cases h3 : (c_X3_checkedPlace v) with
      | inl E_8 =>
        rw [scase_l h3] at h
        cases h
        exact (Or.inl (t_X3_checkedPlace h3))
      | inr x_9 =>
        rw [scase_r h3] at h
        cases h4 : (c_X3_layerToWrite lc mc bc N G x_6) with
        | inl E_11 =>
          rw [scase_l h4] at h
          cases h
          exact (Or.inr (t_X3_layerToWrite h4))
        | inr x_12 =>
          rw [scase_r h4] at h
          cases h
theorem t_X3_checkedShown {lc mc bc : Nat} {N G : Nat → Nat → Int32} {x : Int32} {E : String} (h : c_X3_checkedShown lc mc bc N G x = .inl E) : E = "java/util/NoSuchElementException" := by
  unfold c_X3_checkedShown at h
  cases h1 : (c_X3_layerAt lc mc bc N G (c_X3_layerShown lc mc bc N G x)) with
  | none =>
    rw [ocase_n h1] at h
    cases h; exact rfl
  | some i_2 =>
    rw [ocase_s h1] at h
    cases h
theorem t_X3_remove {lc mc bc : Nat} {N G : Nat → Nat → Int32} {x : Int32} {E : String} (h : c_X3_remove lc mc bc N G x = .inl E) : E = "java/lang/IllegalArgumentException" ∨ E = "java/util/NoSuchElementException" := by
  unfold c_X3_remove at h
  cases h1 : (c_X3_checkedPlace x) with
  | inl E_2 =>
    rw [scase_l h1] at h
    cases h
    exact (Or.inl (t_X3_checkedPlace h1))
  | inr x_3 =>
    rw [scase_r h1] at h
    cases h2 : (c_X3_checkedShown lc mc bc N G x_3) with
    | inl E_5 =>
      rw [scase_l h2] at h
      cases h
      exact (Or.inr (t_X3_checkedShown h2))
    | inr x_6 =>
      rw [scase_r h2] at h
      cases h3 : (c_X3_mountThere lc mc bc N G (c_X3_serverAt lc mc bc N G x_3)) with
      | none =>
        rw [ocase_n h3] at h
        cases h
      | some i_8 =>
        rw [ocase_s h3] at h
        by_cases h4 : (N (150 + i_8) 1) = (-1)
        · rw [if_pos h4] at h
          cases h5 : (c_X3_layerAt lc mc bc N G (c_X2_written lc mc bc N G i_8)) with
          | none =>
            rw [ocase_n h5] at h
            cases h
          | some i_12 =>
            rw [ocase_s h5] at h
            cases h
        · rw [if_neg h4] at h
          by_cases h6 : (c_X3_isThing (c_X3_kindIn lc mc bc N G (N (150 + i_8) 0) (c_X3_restAt lc mc bc N G x_3))) = 0
          · rw [if_pos h6] at h
            cases h7 : (c_X3_layerAt lc mc bc N G (c_X2_written lc mc bc N G i_8)) with
            | none =>
              rw [ocase_n h7] at h
              cases h
            | some i_16 =>
              rw [ocase_s h7] at h
              cases h
          · rw [if_neg h6] at h
            cases h8 : (c_X3_layerAt lc mc bc N G (c_X2_written lc mc bc N G i_8)) with
            | none =>
              rw [ocase_n h8] at h
              cases h
            | some i_19 =>
              rw [ocase_s h8] at h
              cases h
theorem t_X3_shows {lc mc bc : Nat} {N G : Nat → Nat → Int32} {x : Int32} {E : String} (h : c_X3_shows lc mc bc N G x = .inl E) : E = "java/lang/IllegalArgumentException" := by
  unfold c_X3_shows at h
  cases h1 : (c_X3_checkedPlace x) with
  | inl E_2 =>
    rw [scase_l h1] at h
    cases h
    exact (t_X3_checkedPlace h1)
  | inr x_3 =>
    rw [scase_r h1] at h
    by_cases h2 : (c_X3_kindIn lc mc bc N G (c_X3_layerShown lc mc bc N G x_3) (c_X3_restAt lc mc bc N G x_3)) = 1
    · rw [if_pos h2] at h
      cases h
    · rw [if_neg h2] at h
      by_cases h3 : (c_X3_kindIn lc mc bc N G (c_X3_layerShown lc mc bc N G x_3) (c_X3_restAt lc mc bc N G x_3)) = 2
      · rw [if_pos h3] at h
        cases h
      · rw [if_neg h3] at h
        cases h
theorem t_X3_layerOf {lc mc bc : Nat} {N G : Nat → Nat → Int32} {x : Int32} {E : String} (h : c_X3_layerOf lc mc bc N G x = .inl E) : E = "java/lang/IllegalArgumentException" ∨ E = "java/util/NoSuchElementException" := by
  unfold c_X3_layerOf at h
  cases h1 : (c_X3_checkedPlace x) with
  | inl E_2 =>
    rw [scase_l h1] at h
    cases h
    exact (Or.inl (t_X3_checkedPlace h1))
  | inr x_3 =>
    rw [scase_r h1] at h
    by_cases h2 : (c_X3_layerShown lc mc bc N G x_3) = (-1)
    · rw [if_pos h2] at h
      cases h; exact (Or.inr rfl)
    · rw [if_neg h2] at h
      cases h
theorem t_X3_end {lc mc bc : Nat} {N G : Nat → Nat → Int32} {x : Int32} {E : String} (h : c_X3_end lc mc bc N G x = .inl E) : E = "java/lang/IllegalArgumentException" ∨ E = "java/lang/UnsupportedOperationException" ∨ E = "java/lang/IllegalStateException" := by
  unfold c_X3_end at h
  cases h1 : (c_X3_checkedPlace x) with
  | inl E_2 =>
    rw [scase_l h1] at h
    cases h
    exact (Or.inl (t_X3_checkedPlace h1))
  | inr x_3 =>
    rw [scase_r h1] at h
    cases h2 : (c_X3_endOfLinks lc mc bc N G x) with
    | inl E_5 =>
      rw [scase_l h2] at h
      cases h
      rcases t_X3_endOfLinks h2 with q | q
      · exact (Or.inr (Or.inl q))
      · exact (Or.inr (Or.inr q))
    | inr x_6 =>
      rw [scase_r h2] at h
      cases h
theorem t_X3_size {lc mc bc : Nat} {N G : Nat → Nat → Int32} {x : Int32} {E : String} (h : c_X3_size lc mc bc N G x = .inl E) : E = "java/lang/IllegalArgumentException" ∨ E = "java/lang/UnsupportedOperationException" ∨ E = "java/lang/IllegalStateException" ∨ E = "java/util/NoSuchElementException" := by
  unfold c_X3_size at h
  cases h1 : (c_X3_checkedPlace x) with
  | inl E_2 =>
    rw [scase_l h1] at h
    cases h
    exact (Or.inl (t_X3_checkedPlace h1))
  | inr x_3 =>
    rw [scase_r h1] at h
    cases h2 : (c_X3_endOfLinks lc mc bc N G x) with
    | inl E_5 =>
      rw [scase_l h2] at h
      cases h
      rcases t_X3_endOfLinks h2 with q | q
      · exact (Or.inr (Or.inl q))
      · exact (Or.inr (Or.inr (Or.inl q)))
    | inr x_6 =>
      rw [scase_r h2] at h
      by_cases h3 : (c_X3_shownFileSize lc mc bc N G (c_X3_placeOf x_6)) = (-1)
      · rw [if_pos h3] at h
        cases h; exact (Or.inr (Or.inr (Or.inr rfl)))
      · rw [if_neg h3] at h
        cases h
theorem t_X3_sizeByWalking {lc mc bc : Nat} {N G : Nat → Nat → Int32} {x : Int32} {E : String} (h : c_X3_sizeByWalking lc mc bc N G x = .inl E) : E = "java/lang/IllegalArgumentException" := by
  unfold c_X3_sizeByWalking at h
  cases h1 : (c_X3_checkedPlace x) with
  | inl E_2 =>
    rw [scase_l h1] at h
    cases h
    exact (t_X3_checkedPlace h1)
  | inr x_3 =>
    rw [scase_r h1] at h
    cases h
theorem t_X3_ownerOf {lc mc bc : Nat} {N G : Nat → Nat → Int32} {x : Int32} {E : String} (h : c_X3_ownerOf lc mc bc N G x = .inl E) : E = "java/lang/IllegalArgumentException" ∨ E = "java/util/NoSuchElementException" := by
  unfold c_X3_ownerOf at h
  cases h1 : (c_X3_checkedPlace x) with
  | inl E_2 =>
    rw [scase_l h1] at h
    cases h
    exact (Or.inl (t_X3_checkedPlace h1))
  | inr x_3 =>
    rw [scase_r h1] at h
    cases h2 : (c_X3_checkedShown lc mc bc N G x_3) with
    | inl E_5 =>
      rw [scase_l h2] at h
      cases h
      exact (Or.inr (t_X3_checkedShown h2))
    | inr x_6 =>
      rw [scase_r h2] at h
      cases h
theorem t_X3_setQuota {lc mc bc : Nat} {N G : Nat → Nat → Int32} {x : Int32} {y : Int32} {E : String} (h : c_X3_setQuota lc mc bc N G x y = .inl E) : E = "java/lang/IllegalArgumentException" := by
  unfold c_X3_setQuota at h
  cases h1 : (c_X3_checkOwner x) with
  | inl E_2 =>
    rw [scase_l h1] at h
    cases h
    exact (t_X3_checkOwner h1)
  | inr _ =>
    rw [scase_r h1] at h
    by_cases h2 : y < 0
    · rw [if_pos h2] at h
      cases h; exact rfl
    · rw [if_neg h2] at h
      by_cases h3 : y ≤ 99999
      · rw [if_pos h3] at h
        by_cases h4 : (c_X3_isOwner x) = 0
        · rw [if_pos h4] at h
          cases h
        · rw [if_neg h4] at h
          cases h
      · rw [if_neg h3] at h
        cases h; exact rfl
theorem t_X3_used {lc mc bc : Nat} {N G : Nat → Nat → Int32} {x : Int32} {E : String} (h : c_X3_used lc mc bc N G x = .inl E) : E = "java/lang/IllegalArgumentException" := by
  unfold c_X3_used at h
  cases h1 : (c_X3_checkOwner x) with
  | inl E_2 =>
    rw [scase_l h1] at h
    cases h
    exact (t_X3_checkOwner h1)
  | inr _ =>
    rw [scase_r h1] at h
    cases h
theorem t_X3_usedByLayers {lc mc bc : Nat} {N G : Nat → Nat → Int32} {x : Int32} {E : String} (h : c_X3_usedByLayers lc mc bc N G x = .inl E) : E = "java/lang/IllegalArgumentException" := by
  unfold c_X3_usedByLayers at h
  cases h1 : (c_X3_checkOwner x) with
  | inl E_2 =>
    rw [scase_l h1] at h
    cases h
    exact (t_X3_checkOwner h1)
  | inr _ =>
    rw [scase_r h1] at h
    cases h
theorem t_X3_checkedLayer {lc mc bc : Nat} {N G : Nat → Nat → Int32} {x : Int32} {E : String} (h : c_X3_checkedLayer lc mc bc N G x = .inl E) : E = "java/lang/IndexOutOfBoundsException" := by
  unfold c_X3_checkedLayer at h
  cases h1 : (c_X3_layerAt lc mc bc N G x) with
  | none =>
    rw [ocase_n h1] at h
    cases h; exact rfl
  | some i_2 =>
    rw [ocase_s h1] at h
    cases h
theorem t_X3_whiteouts {lc mc bc : Nat} {N G : Nat → Nat → Int32} {x : Int32} {E : String} (h : c_X3_whiteouts lc mc bc N G x = .inl E) : E = "java/lang/IndexOutOfBoundsException" := by
  unfold c_X3_whiteouts at h
  cases h1 : (c_X3_checkedLayer lc mc bc N G x) with
  | inl E_2 =>
    rw [scase_l h1] at h
    cases h
    exact (t_X3_checkedLayer h1)
  | inr x_3 =>
    rw [scase_r h1] at h
    cases h
theorem t_X3_checkedBackup {lc mc bc : Nat} {N G : Nat → Nat → Int32} {x : Int32} {E : String} (h : c_X3_checkedBackup lc mc bc N G x = .inl E) : E = "java/lang/IndexOutOfBoundsException" := by
  unfold c_X3_checkedBackup at h
  by_cases h1 : x < 0
  · rw [if_pos h1] at h
    cases h; exact rfl
  · rw [if_neg h1] at h
    by_cases h2 : 6 ≤ x
    · rw [if_pos h2] at h
      cases h; exact rfl
    · rw [if_neg h2] at h
      by_cases h3 : x.toNatClampNeg < bc
      · rw [if_pos h3] at h
        cases h
      · rw [if_neg h3] at h
        cases h; exact rfl
theorem t_X3_bytes {lc mc bc : Nat} {N G : Nat → Nat → Int32} {x : Int32} {E : String} (h : c_X3_bytes lc mc bc N G x = .inl E) : E = "java/lang/IndexOutOfBoundsException" := by
  unfold c_X3_bytes at h
  cases h1 : (c_X3_checkedBackup lc mc bc N G x) with
  | inl E_2 =>
    rw [scase_l h1] at h
    cases h
    exact (t_X3_checkedBackup h1)
  | inr x_3 =>
    rw [scase_r h1] at h
    cases h
theorem t_X3_differences {lc mc bc : Nat} {N G : Nat → Nat → Int32} {x : Int32} {E : String} (h : c_X3_differences lc mc bc N G x = .inl E) : E = "java/lang/IndexOutOfBoundsException" := by
  unfold c_X3_differences at h
  cases h1 : (c_X3_checkedBackup lc mc bc N G x) with
  | inl E_2 =>
    rw [scase_l h1] at h
    cases h
    exact (t_X3_checkedBackup h1)
  | inr x_3 =>
    rw [scase_r h1] at h
    cases h
theorem t_X3_shownShare {lc mc bc : Nat} {N G : Nat → Nat → Int32}  {E : String} (h : c_X3_shownShare lc mc bc N G = .inl E) : E = "java/lang/ArithmeticException" := by
  unfold c_X3_shownShare at h
  by_cases h1 : (c_X3_allBytes lc mc bc N G) = 0
  · rw [if_pos h1] at h
    cases h; exact rfl
  · rw [if_neg h1] at h
    cases h
theorem t_X3_meanSize {lc mc bc : Nat} {N G : Nat → Nat → Int32} {x : Int32} {E : String} (h : c_X3_meanSize lc mc bc N G x = .inl E) : E = "java/lang/IndexOutOfBoundsException" ∨ E = "java/lang/ArithmeticException" := by
  unfold c_X3_meanSize at h
  cases h1 : (c_X3_checkedLayer lc mc bc N G x) with
  | inl E_2 =>
    rw [scase_l h1] at h
    cases h
    exact (Or.inl (t_X3_checkedLayer h1))
  | inr x_3 =>
    rw [scase_r h1] at h
    by_cases h2 : (c_X1_countOf lc mc bc N G x_3 1) = 0
    · rw [if_pos h2] at h
      cases h; exact (Or.inr rfl)
    · rw [if_neg h2] at h
      cases h
theorem t_X3_addLayer {lc mc bc : Nat} {N G : Nat → Nat → Int32}  {E : String} (h : c_X3_addLayer lc mc bc N G = .inl E) : E = "java/lang/IllegalStateException" := by
  unfold c_X3_addLayer at h
  by_cases h1 : (nI lc) < 0
  · rw [if_pos h1] at h
    cases h; exact rfl
  · rw [if_neg h1] at h
    by_cases h2 : (nI lc) < 6
    · rw [if_pos h2] at h
      cases h
    · rw [if_neg h2] at h
      cases h; exact rfl
theorem t_X3_mount {lc mc bc : Nat} {N G : Nat → Nat → Int32} {x : Int32} {y : Int32} {v : Int32} {E : String} (h : c_X3_mount lc mc bc N G x y v = .inl E) : E = "java/lang/IllegalArgumentException" ∨ E = "java/lang/IndexOutOfBoundsException" ∨ E = "java/lang/IllegalStateException" ∨ E = "java/lang/UnsupportedOperationException" := by
  unfold c_X3_mount at h
  by_cases h1 : v = (-1)
  · rw [if_pos h1] at h
    by_cases h2 : (c_X3_placeOf x) = (-1)
    · rw [if_pos h2] at h
      cases h; exact (Or.inl rfl)
    · rw [if_neg h2] at h
      cases h3 : (c_X3_layerAt lc mc bc N G y) with
      | none =>
        rw [ocase_n h3] at h
        cases h; exact (Or.inr (Or.inl rfl))
      | some i_5 =>
        rw [ocase_s h3] at h
        by_cases h4 : (c_X3_isUpperOfSome lc mc bc N G y) = 0
        · rw [if_pos h4] at h
          by_cases h5 : (nI mc) < 0
          · rw [if_pos h5] at h
            cases h; exact (Or.inr (Or.inr (Or.inl rfl)))
          · rw [if_neg h5] at h
            by_cases h6 : (nI mc) < 8
            · rw [if_pos h6] at h
              cases h
            · rw [if_neg h6] at h
              cases h; exact (Or.inr (Or.inr (Or.inl rfl)))
        · rw [if_neg h4] at h
          cases h; exact (Or.inr (Or.inr (Or.inr rfl)))
  · rw [if_neg h1] at h
    by_cases h7 : (c_X3_placeOf x) = (-1)
    · rw [if_pos h7] at h
      cases h; exact (Or.inl rfl)
    · rw [if_neg h7] at h
      by_cases h8 : y = v
      · rw [if_pos h8] at h
        cases h; exact (Or.inl rfl)
      · rw [if_neg h8] at h
        cases h9 : (c_X3_layerAt lc mc bc N G y) with
        | none =>
          rw [ocase_n h9] at h
          cases h; exact (Or.inr (Or.inl rfl))
        | some i_15 =>
          rw [ocase_s h9] at h
          cases h10 : (c_X3_layerAt lc mc bc N G v) with
          | none =>
            rw [ocase_n h10] at h
            cases h; exact (Or.inr (Or.inl rfl))
          | some i_18 =>
            rw [ocase_s h10] at h
            by_cases h11 : (c_X3_isUpperOfSome lc mc bc N G y) = 0
            · rw [if_pos h11] at h
              by_cases h12 : (c_X3_isInSome lc mc bc N G v) = 0
              · rw [if_pos h12] at h
                by_cases h13 : (nI mc) < 0
                · rw [if_pos h13] at h
                  cases h; exact (Or.inr (Or.inr (Or.inl rfl)))
                · rw [if_neg h13] at h
                  by_cases h14 : (nI mc) < 8
                  · rw [if_pos h14] at h
                    cases h
                  · rw [if_neg h14] at h
                    cases h; exact (Or.inr (Or.inr (Or.inl rfl)))
              · rw [if_neg h12] at h
                cases h; exact (Or.inr (Or.inr (Or.inr rfl)))
            · rw [if_neg h11] at h
              cases h; exact (Or.inr (Or.inr (Or.inr rfl)))
theorem t_X3_backUp {lc mc bc : Nat} {N G : Nat → Nat → Int32} {x : Int32} {E : String} (h : c_X3_backUp lc mc bc N G x = .inl E) : E = "java/lang/IllegalStateException" := by
  unfold c_X3_backUp at h
  by_cases h1 : (nI bc) < 0
  · rw [if_pos h1] at h
    cases h; exact rfl
  · rw [if_neg h1] at h
    by_cases h2 : (nI bc) < 6
    · rw [if_pos h2] at h
      cases h
    · rw [if_neg h2] at h
      cases h; exact rfl
