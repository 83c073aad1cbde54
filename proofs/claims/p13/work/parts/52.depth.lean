theorem okD_adv_L {x1 : Int32} {v_depth : Int32} {v_bestCost : Int32} {v_bestOnes : Int32} {v_stepsMade : Int32} {v_state : Int32} {v_problem_constraints : Int32} {v_problem_costs : Nat → Int32} {v_problem_coefficients : Nat → Int32} {v_problem_literals : Nat → Int32} {v_problem_bits : Nat → Int32} {v_problem_firsts : Nat → Int32} {v_problem_bounds : Nat → Int32} {v_log_size : Int32} {v_log_words : Nat → Int32} {v_setting_ones : Int32} {v_setting_zeros : Int32} {v_choices : Nat → Int32} {v_onesBefore : Nat → Int32} {v_zerosBefore : Nat → Int32} : ∀ (n : Nat) (l2 : Int32) (v_depth' : Int32) (v_bestCost' : Int32) (v_bestOnes' : Int32) (v_stepsMade' : Int32) (v_state' : Int32) (v_log_size' : Int32) (v_log_words' : Nat → Int32) (v_setting_ones' : Int32) (v_setting_zeros' : Int32) (v_choices' : Nat → Int32) (v_onesBefore' : Nat → Int32) (v_zerosBefore' : Nat → Int32), okN 16 v_depth' → okN 16 ((fX3_advance_L2 x1 v_depth v_bestCost v_bestOnes v_stepsMade v_state v_problem_constraints v_problem_costs v_problem_coefficients v_problem_literals v_problem_bits v_problem_firsts v_problem_bounds v_log_size v_log_words v_setting_ones v_setting_zeros v_choices v_onesBefore v_zerosBefore n l2 v_depth' v_bestCost' v_bestOnes' v_stepsMade' v_state' v_log_size' v_log_words' v_setting_ones' v_setting_zeros' v_choices' v_onesBefore' v_zerosBefore').2.1) := by
  intro n
  induction n with
  | zero => intro l2 v_depth' v_bestCost' v_bestOnes' v_stepsMade' v_state' v_log_size' v_log_words' v_setting_ones' v_setting_zeros' v_choices' v_onesBefore' v_zerosBefore' h; exact h
  | succ n ih =>
    intro l2 v_depth' v_bestCost' v_bestOnes' v_stepsMade' v_state' v_log_size' v_log_words' v_setting_ones' v_setting_zeros' v_choices' v_onesBefore' v_zerosBefore' h
    rw [fX3_advance_L2.eq_2]
    split
    · exact h
    · split
      · exact ih _ _ _ _ _ _ _ _ _ _ _ _ _ (okD_step h)
      · exact h
theorem okD_adv {x1 : Int32} {v_depth : Int32} {v_bestCost : Int32} {v_bestOnes : Int32} {v_stepsMade : Int32} {v_state : Int32} {v_problem_constraints : Int32} {v_problem_costs : Nat → Int32} {v_problem_coefficients : Nat → Int32} {v_problem_literals : Nat → Int32} {v_problem_bits : Nat → Int32} {v_problem_firsts : Nat → Int32} {v_problem_bounds : Nat → Int32} {v_log_size : Int32} {v_log_words : Nat → Int32} {v_setting_ones : Int32} {v_setting_zeros : Int32} {v_choices : Nat → Int32} {v_onesBefore : Nat → Int32} {v_zerosBefore : Nat → Int32} (h : okN 16 v_depth) : okN 16 ((fX3_advance x1 v_depth v_bestCost v_bestOnes v_stepsMade v_state v_problem_constraints v_problem_costs v_problem_coefficients v_problem_literals v_problem_bits v_problem_firsts v_problem_bounds v_log_size v_log_words v_setting_ones v_setting_zeros v_choices v_onesBefore v_zerosBefore).2.1) := by
  rw [fX3_advance_eq]; unfold fX3_advance_d
  exact okD_adv_L _ _ _ _ _ _ _ _ _ _ _ _ _ _ h
theorem okD_run {x1 : Int32} {v_started : Int32} {v_problem_constraints : Int32} {v_problem_costs : Nat → Int32} {v_problem_coefficients : Nat → Int32} {v_problem_literals : Nat → Int32} {v_problem_bits : Nat → Int32} {v_problem_firsts : Nat → Int32} {v_problem_bounds : Nat → Int32} {v_log_size : Int32} {v_log_words : Nat → Int32} {v_search_depth : Int32} {v_search_bestCost : Int32} {v_search_bestOnes : Int32} {v_search_stepsMade : Int32} {v_search_state : Int32} {v_search_setting_ones : Int32} {v_search_setting_zeros : Int32} {v_search_choices : Nat → Int32} {v_search_onesBefore : Nat → Int32} {v_search_zerosBefore : Nat → Int32} (h : okN 16 v_search_depth) : okN 16 ((fX5_run x1 v_started v_problem_constraints v_problem_costs v_problem_coefficients v_problem_literals v_problem_bits v_problem_firsts v_problem_bounds v_log_size v_log_words v_search_depth v_search_bestCost v_search_bestOnes v_search_stepsMade v_search_state v_search_setting_ones v_search_setting_zeros v_search_choices v_search_onesBefore v_search_zerosBefore).2.2.2.2.1) := by
  rw [fX5_run_eq]; unfold fX5_run_d
  split
  · exact h
  · exact okD_adv h
