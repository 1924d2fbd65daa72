theorem am_goal_holds : am_goal := sorry
