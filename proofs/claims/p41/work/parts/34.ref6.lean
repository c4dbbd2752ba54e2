/-! the reference's keeping and coming back, by walks (written by wip/p13/gen) -/
