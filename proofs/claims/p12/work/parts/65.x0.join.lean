section ST9

end ST9
