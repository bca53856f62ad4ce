/** Writes instructions as the words that the document tells. */
final class Words {
    static final int HALT = 0;

    private Words() {
    }

    static int word(int operation, int a, int b, int c, int n) {
        return operation | a << 4 | b << 6 | c << 8 | n << 10;
    }

    static int set(int a, int n) {
        return word(1, a, 0, 0, n);
    }

    static int add(int a, int b, int c) {
        return word(2, a, b, c, 0);
    }

    static int subtract(int a, int b, int c) {
        return word(3, a, b, c, 0);
    }

    static int multiply(int a, int b, int c) {
        return word(4, a, b, c, 0);
    }

    static int addNumber(int a, int b, int n) {
        return word(5, a, b, 0, n);
    }

    static int ownNumber(int a) {
        return word(6, a, 0, 0, 0);
    }

    static int goIfZero(int a, int n) {
        return word(7, a, 0, 0, n);
    }

    static int go(int n) {
        return word(8, 0, 0, 0, n);
    }

    static int load(int a, int b, int n) {
        return word(9, a, b, 0, n);
    }

    static int store(int a, int b, int n) {
        return word(10, a, b, 0, n);
    }

    static int swap(int a, int b, int c, int n) {
        return word(11, a, b, c, n);
    }
}
