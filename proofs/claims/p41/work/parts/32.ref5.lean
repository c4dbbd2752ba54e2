/-! the reference's looks, by walks (written by wip/p13/gen) -/
