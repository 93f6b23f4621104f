/-! the class's digest -/
