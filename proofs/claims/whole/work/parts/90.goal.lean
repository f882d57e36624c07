/-! WHAT IS LEFT (open): the picture machine runs the law to 1 on every script -/
theorem ip_goal : ip_Goal := sorry
