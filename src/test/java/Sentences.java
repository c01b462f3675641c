/** What the tests have in common: the document's numbers by name, and how a sentence is begun. */
abstract class Sentences {
    static final int SET = 0;
    static final int ADD = 1;
    static final int KEEP = 2;
    static final int PUT = 3;
    static final int GET = 4;
    static final int SELF = 5;
    static final int NEW = 6;
    static final int SEND = 7;
    static final int SKIP = 8;
    static final int OUT = 9;
    static final int NIL = 10;

    static final int CALL = 1;
    static final int RESOLVE = 2;
    static final int RELEASE = 3;
    static final int GIFT = 4;
    static final int REDEEM = 5;

    static final int OBJECTS = 0;
    static final int OPEN = 1;
    static final int RESOLVED = 2;
    static final int IMPORTS = 3;
    static final int GIFTS = 4;
    static final int REDEEMS = 5;
    static final int WAITING = 6;
    static final int OUTPUTS = 7;

    static final int MIN = Integer.MIN_VALUE;
    static final int MAX = Integer.MAX_VALUE;

    /** Begins the test of a sentence, which is told with each answer that is not as due. */
    static void sentence(String text) {
        Check.begin(text);
    }

    static void due(String what, long got, long want) {
        Check.due(what, got, want);
    }

    static void due(String what, boolean got, boolean want) {
        Check.due(what, got, want);
    }
}
