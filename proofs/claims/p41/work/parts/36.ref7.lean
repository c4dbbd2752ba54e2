/-! the reference's draws, counts and shelves, by walks (written by wip/p13/gen) -/
