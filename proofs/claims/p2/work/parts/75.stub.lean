def nrm (c : hC) : hC := match c with
  | .inr (t, n, .inr g) => .inr (t, n, .inr (fun i => if i < n then g i else none))
  | c => c
