/** The methods of the document, so that a run can be put to the program and to a model of it. */
interface Face {
    boolean code(int program, int op, int x);

    boolean clear(int program);

    boolean give(int v, int s, int w);

    boolean poke(int v, int value);

    int turn(int v);

    int deliver(int a, int b);

    int sweep(int v);

    int flying(int a, int b);

    int inbox(int v);

    int count(int v, int kind);

    int imported(int v, int e);

    int exported(int e, int b);

    int home(int e);

    int slot(int e, int s);

    int number(int e);

    int resolved(int e);

    int output(int v, int k);
}
