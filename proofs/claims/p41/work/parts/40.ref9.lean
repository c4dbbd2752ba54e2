/-! the reference's records, by walks (written by wip/p13/gen) -/
