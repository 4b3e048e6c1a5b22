section ST18
end ST18
section ST19
end ST19
