/-! the reference's calls on squares, by walks (written by wip/p13/gen) -/
