/-! (the trees of both programs: behind the values) -/
theorem cm_stub : True := trivial
