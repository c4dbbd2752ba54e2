/-! the reference's house, by a walk (written by wip/p13/gen) -/
