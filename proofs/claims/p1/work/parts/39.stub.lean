theorem h_hours {l : Launch} {G : qG} {gh : zGh} {I : qMI} {L : qML} {R : qMR} (hm : zM gh 336 zA0 I L R) (x1 : Int32) : zH l G 8 n_X8_hours n_X9_hours [.int x1] I L R := sorry
theorem h_umbrellas {l : Launch} {G : qG} {gh : zGh} {I : qMI} {L : qML} {R : qMR} (hm : zM gh 336 zA0 I L R) (x1 x2 : Int32) : zH l G 8 n_X8_umbrellas n_X9_umbrellas [.int x1, .int x2] I L R := sorry
theorem h_hidden {l : Launch} {G : qG} {gh : zGh} {I : qMI} {L : qML} {R : qMR} (hm : zM gh 336 zA0 I L R) (x1 x2 x3 : Int32) : zH l G 8 n_X8_hidden n_X9_hidden [.int x1, .int x2, .int x3] I L R := sorry
theorem h_look {l : Launch} {G : qG} {gh : zGh} {I : qMI} {L : qML} {R : qMR} (hm : zM gh 336 zA0 I L R) (x1 x2 : Int32) : zH l G 8 n_X8_look n_X9_look [.int x1, .int x2] I L R := sorry
