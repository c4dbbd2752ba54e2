/-! the reference's pauses, by walks (written by wip/p13/gen) -/
