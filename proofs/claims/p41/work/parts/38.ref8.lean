/-! the reference's copying, rules, chat, bears, by walks (written by wip/p13/gen) -/
