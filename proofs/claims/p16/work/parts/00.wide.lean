theorem wide_0 : True := (fun _ => trivial) (@State.methodFound?_faceFind)
