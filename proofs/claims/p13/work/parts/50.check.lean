def ckP (w : Int32) (b : Nat → Int32) : Prop := okN 400 w ∧ ∀ i : Nat, b i = 0 ∨ b i = 1
theorem ck_L18 {x1 : Int32} {v_waiting : Int32} {v_broken : Int32} {v_limit : Int32} {v_position : Int32} {v_treeSize : Int32} {v_begun : Int32} {v_verdict : Int32} {v_problem_constraints : Int32} {v_problem_costs : Nat → Int32} {v_problem_coefficients : Nat → Int32} {v_problem_literals : Nat → Int32} {v_problem_bits : Nat → Int32} {v_problem_firsts : Nat → Int32} {v_problem_bounds : Nat → Int32} {v_log_size : Int32} {v_log_words : Nat → Int32} {v_setting_ones : Int32} {v_setting_zeros : Int32} {v_waitingOnes : Nat → Int32} {v_waitingZeros : Nat → Int32} {v_waitingBroken : Nat → Int32} : ∀ (n : Nat) (l2 : Int32) (v_waiting' : Int32) (v_broken' : Int32) (v_limit' : Int32) (v_position' : Int32) (v_treeSize' : Int32) (v_begun' : Int32) (v_verdict' : Int32) (v_setting_ones' : Int32) (v_setting_zeros' : Int32) (v_waitingOnes' : Nat → Int32) (v_waitingZeros' : Nat → Int32) (v_waitingBroken' : Nat → Int32), ckP v_waiting' v_waitingBroken' → ckP ((fX0_readOn_L18 x1 v_waiting v_broken v_limit v_position v_treeSize v_begun v_verdict v_problem_constraints v_problem_costs v_problem_coefficients v_problem_literals v_problem_bits v_problem_firsts v_problem_bounds v_log_size v_log_words v_setting_ones v_setting_zeros v_waitingOnes v_waitingZeros v_waitingBroken n l2 v_waiting' v_broken' v_limit' v_position' v_treeSize' v_begun' v_verdict' v_setting_ones' v_setting_zeros' v_waitingOnes' v_waitingZeros' v_waitingBroken').2.1) ((fX0_readOn_L18 x1 v_waiting v_broken v_limit v_position v_treeSize v_begun v_verdict v_problem_constraints v_problem_costs v_problem_coefficients v_problem_literals v_problem_bits v_problem_firsts v_problem_bounds v_log_size v_log_words v_setting_ones v_setting_zeros v_waitingOnes v_waitingZeros v_waitingBroken n l2 v_waiting' v_broken' v_limit' v_position' v_treeSize' v_begun' v_verdict' v_setting_ones' v_setting_zeros' v_waitingOnes' v_waitingZeros' v_waitingBroken').2.2.2.2.2.2.2.2.2.2.2.2) := by
  intro n
  induction n with
  | zero => intro l2 v_waiting' v_broken' v_limit' v_position' v_treeSize' v_begun' v_verdict' v_setting_ones' v_setting_zeros' v_waitingOnes' v_waitingZeros' v_waitingBroken' h; exact h
  | succ n ih =>
    intro l2 v_waiting' v_broken' v_limit' v_position' v_treeSize' v_begun' v_verdict' v_setting_ones' v_setting_zeros' v_waitingOnes' v_waitingZeros' v_waitingBroken' h
    rw [fX0_readOn_L18.eq_2]
    split
    · exact h
    · split
      · exact ih _ _ _ _ _ _ _ _ _ _ _ _ _ ⟨okW_readWord h.1, zB_readWord h.2⟩
      · exact h
theorem ck_readOn {x1 : Int32} {v_waiting : Int32} {v_broken : Int32} {v_limit : Int32} {v_position : Int32} {v_treeSize : Int32} {v_begun : Int32} {v_verdict : Int32} {v_problem_constraints : Int32} {v_problem_costs : Nat → Int32} {v_problem_coefficients : Nat → Int32} {v_problem_literals : Nat → Int32} {v_problem_bits : Nat → Int32} {v_problem_firsts : Nat → Int32} {v_problem_bounds : Nat → Int32} {v_log_size : Int32} {v_log_words : Nat → Int32} {v_setting_ones : Int32} {v_setting_zeros : Int32} {v_waitingOnes : Nat → Int32} {v_waitingZeros : Nat → Int32} {v_waitingBroken : Nat → Int32} (h : ckP v_waiting v_waitingBroken) : ckP ((fX0_readOn x1 v_waiting v_broken v_limit v_position v_treeSize v_begun v_verdict v_problem_constraints v_problem_costs v_problem_coefficients v_problem_literals v_problem_bits v_problem_firsts v_problem_bounds v_log_size v_log_words v_setting_ones v_setting_zeros v_waitingOnes v_waitingZeros v_waitingBroken).2.1) ((fX0_readOn x1 v_waiting v_broken v_limit v_position v_treeSize v_begun v_verdict v_problem_constraints v_problem_costs v_problem_coefficients v_problem_literals v_problem_bits v_problem_firsts v_problem_bounds v_log_size v_log_words v_setting_ones v_setting_zeros v_waitingOnes v_waitingZeros v_waitingBroken).2.2.2.2.2.2.2.2.2.2.2.2) := by
  rw [fX0_readOn_eq]; unfold fX0_readOn_d
  split
  · exact ck_L18 _ _ _ _ _ _ _ _ _ _ _ _ _ _ ⟨okW_begin h.1, h.2⟩
  · exact ck_L18 _ _ _ _ _ _ _ _ _ _ _ _ _ _ h
theorem ck_check {x1 : Int32} {v_problem_constraints : Int32} {v_problem_costs : Nat → Int32} {v_problem_coefficients : Nat → Int32} {v_problem_literals : Nat → Int32} {v_problem_bits : Nat → Int32} {v_problem_firsts : Nat → Int32} {v_problem_bounds : Nat → Int32} {v_log_size : Int32} {v_log_words : Nat → Int32} {v_search_state : Int32} {v_checker_waiting : Int32} {v_checker_broken : Int32} {v_checker_limit : Int32} {v_checker_position : Int32} {v_checker_treeSize : Int32} {v_checker_begun : Int32} {v_checker_verdict : Int32} {v_checker_setting_ones : Int32} {v_checker_setting_zeros : Int32} {v_checker_waitingOnes : Nat → Int32} {v_checker_waitingZeros : Nat → Int32} {v_checker_waitingBroken : Nat → Int32} (h : ckP v_checker_waiting v_checker_waitingBroken) : ckP ((fX5_check x1 v_problem_constraints v_problem_costs v_problem_coefficients v_problem_literals v_problem_bits v_problem_firsts v_problem_bounds v_log_size v_log_words v_search_state v_checker_waiting v_checker_broken v_checker_limit v_checker_position v_checker_treeSize v_checker_begun v_checker_verdict v_checker_setting_ones v_checker_setting_zeros v_checker_waitingOnes v_checker_waitingZeros v_checker_waitingBroken).2.1) ((fX5_check x1 v_problem_constraints v_problem_costs v_problem_coefficients v_problem_literals v_problem_bits v_problem_firsts v_problem_bounds v_log_size v_log_words v_search_state v_checker_waiting v_checker_broken v_checker_limit v_checker_position v_checker_treeSize v_checker_begun v_checker_verdict v_checker_setting_ones v_checker_setting_zeros v_checker_waitingOnes v_checker_waitingZeros v_checker_waitingBroken).2.2.2.2.2.2.2.2.2.2.2.2) := by
  rw [fX5_check_eq]; unfold fX5_check_d
  split
  · exact h
  · split
    · exact h
    · exact ck_readOn h
def wpP (answer waiting place : Int32) : Prop := answer = 2 → ∃ w q : Nat, waiting = nI w ∧ place = nI q ∧ 1 ≤ w ∧ w ≤ q + 1 ∧ q ≤ 400
theorem wp_L36 {x1 : Int32} {v_constraints : Int32} {v_done : Int32} {v_set : Int32} {v_ones : Int32} {v_size : Int32} {v_answer : Int32} {v_looked : Int32} {v_place : Int32} {v_waiting : Int32} {v_costs : Nat → Int32} {v_factors : Nat → Int32} {v_literals : Nat → Int32} {v_begins : Nat → Int32} {v_bounds : Nat → Int32} {v_log : Nat → Int32} {v_waitSet : Nat → Int32} {v_waitOnes : Nat → Int32} {v_waitDead : Nat → Int32} (hL : okN 400 v_size) : ∀ (n : Nat) (l2 : Int32) (v_set' : Int32) (v_ones' : Int32) (v_answer' : Int32) (v_looked' : Int32) (v_place' : Int32) (v_waiting' : Int32) (v_waitSet' : Nat → Int32) (v_waitOnes' : Nat → Int32) (v_waitDead' : Nat → Int32), wpP v_answer' v_waiting' v_place' → wpP ((fX6_check_L36 x1 v_constraints v_done v_set v_ones v_size v_answer v_looked v_place v_waiting v_costs v_factors v_literals v_begins v_bounds v_log v_waitSet v_waitOnes v_waitDead n l2 v_set' v_ones' v_answer' v_looked' v_place' v_waiting' v_waitSet' v_waitOnes' v_waitDead').2.2.2.1) ((fX6_check_L36 x1 v_constraints v_done v_set v_ones v_size v_answer v_looked v_place v_waiting v_costs v_factors v_literals v_begins v_bounds v_log v_waitSet v_waitOnes v_waitDead n l2 v_set' v_ones' v_answer' v_looked' v_place' v_waiting' v_waitSet' v_waitOnes' v_waitDead').2.2.2.2.2.2.1) ((fX6_check_L36 x1 v_constraints v_done v_set v_ones v_size v_answer v_looked v_place v_waiting v_costs v_factors v_literals v_begins v_bounds v_log v_waitSet v_waitOnes v_waitDead n l2 v_set' v_ones' v_answer' v_looked' v_place' v_waiting' v_waitSet' v_waitOnes' v_waitDead').2.2.2.2.2.1) := by
  intro n
  induction n with
  | zero => intro l2 v_set' v_ones' v_answer' v_looked' v_place' v_waiting' v_waitSet' v_waitOnes' v_waitDead' h; exact h
  | succ n ih =>
    intro l2 v_set' v_ones' v_answer' v_looked' v_place' v_waiting' v_waitSet' v_waitOnes' v_waitDead' h
    rw [fX6_check_L36.eq_2]
    split
    · exact h
    · split
      · rename_i c1 c2
        exact ih _ _ _ _ _ _ _ _ _ _ (wp_word hL (h c2))
      · exact h
theorem wp_check {x1 : Int32} {v_constraints : Int32} {v_done : Int32} {v_set : Int32} {v_ones : Int32} {v_size : Int32} {v_answer : Int32} {v_looked : Int32} {v_place : Int32} {v_waiting : Int32} {v_costs : Nat → Int32} {v_factors : Nat → Int32} {v_literals : Nat → Int32} {v_begins : Nat → Int32} {v_bounds : Nat → Int32} {v_log : Nat → Int32} {v_waitSet : Nat → Int32} {v_waitOnes : Nat → Int32} {v_waitDead : Nat → Int32} (hL : okN 400 v_size) (h : ¬ v_looked = 0 → wpP v_answer v_waiting v_place) : ¬ ((fX6_check x1 v_constraints v_done v_set v_ones v_size v_answer v_looked v_place v_waiting v_costs v_factors v_literals v_begins v_bounds v_log v_waitSet v_waitOnes v_waitDead).2.2.2.2.1) = 0 → wpP ((fX6_check x1 v_constraints v_done v_set v_ones v_size v_answer v_looked v_place v_waiting v_costs v_factors v_literals v_begins v_bounds v_log v_waitSet v_waitOnes v_waitDead).2.2.2.1) ((fX6_check x1 v_constraints v_done v_set v_ones v_size v_answer v_looked v_place v_waiting v_costs v_factors v_literals v_begins v_bounds v_log v_waitSet v_waitOnes v_waitDead).2.2.2.2.2.2.1) ((fX6_check x1 v_constraints v_done v_set v_ones v_size v_answer v_looked v_place v_waiting v_costs v_factors v_literals v_begins v_bounds v_log v_waitSet v_waitOnes v_waitDead).2.2.2.2.2.1) := by
  rw [fX6_check_eq]; unfold fX6_check_d
  split
  · exact h
  · split
    · exact h
    · split
      · intro _; exact wp_L36 hL _ _ _ _ _ _ _ _ _ _ _ (fun _ => ⟨1, 0, wp_look.1, wp_look.2, by omega, by omega, by omega⟩)
      · rename_i c1 c2 c3
        intro _; exact wp_L36 hL _ _ _ _ _ _ _ _ _ _ _ (h c3)
