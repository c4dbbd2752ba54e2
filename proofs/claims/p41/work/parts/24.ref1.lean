/-! the reference's methods, by walks (written by wip/p13/gen) -/
