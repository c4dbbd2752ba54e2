/-! the reference's games, judging, meetings, by walks (written by wip/p13/gen) -/
