/** One call of a run: a method and its arguments, of which it takes the first one, two or three. */
record Ask(String method, int a, int b, int c) {
    /** The answer, with 1 for true and 0 for false. */
    int of(Face face) {
        return switch (method) {
            case "code" -> face.code(a, b, c) ? 1 : 0;
            case "clear" -> face.clear(a) ? 1 : 0;
            case "give" -> face.give(a, b, c) ? 1 : 0;
            case "poke" -> face.poke(a, b) ? 1 : 0;
            case "turn" -> face.turn(a);
            case "deliver" -> face.deliver(a, b);
            case "sweep" -> face.sweep(a);
            case "flying" -> face.flying(a, b);
            case "inbox" -> face.inbox(a);
            case "count" -> face.count(a, b);
            case "imported" -> face.imported(a, b);
            case "exported" -> face.exported(a, b);
            case "home" -> face.home(a);
            case "slot" -> face.slot(a, b);
            case "number" -> face.number(a);
            case "resolved" -> face.resolved(a);
            case "output" -> face.output(a, b);
            default -> throw new IllegalArgumentException(method);
        };
    }

    String text() {
        return switch (method) {
            case "code", "give" -> method + "(" + a + ", " + b + ", " + c + ")";
            case "clear", "turn", "sweep", "inbox", "home", "number", "resolved" ->
                method + "(" + a + ")";
            default -> method + "(" + a + ", " + b + ")";
        };
    }
}
