/-! 255 RockTugsLaw.law([I)Z -/
-- makes cells: by its run
