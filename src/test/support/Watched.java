/**
 * An OddNotice that counts its calls: the document promises nothing beyond the 512th, so a test that
 * makes more of them asks for something that is free.
 */
public final class Watched {
    private static final int PROMISED_CALLS = 512;

    private final OddNotice object = new OddNotice();
    private int calls;

    private OddNotice called() {
        calls++;
        if (calls > PROMISED_CALLS) {
            throw new AssertionError("the test makes more calls of one object than are promised");
        }
        return object;
    }

    public int come(int clerk) {
        return called().come(clerk);
    }

    public int chalk(int field, int value) {
        return called().chalk(field, value);
    }

    public int done(int clerk) {
        return called().done(clerk);
    }

    public int reader(int reader, boolean heeds) {
        return called().reader(reader, heeds);
    }

    public int begin(int reader) {
        return called().begin(reader);
    }

    public int look(int reader) {
        return called().look(reader);
    }

    public int set(int value) {
        return called().set(value);
    }

    public int append(int code) {
        return called().append(code);
    }

    public int clearBuffer() {
        return called().clearBuffer();
    }

    public int firstError() {
        return called().firstError();
    }

    public int play() {
        return called().play();
    }

    public int undo() {
        return called().undo();
    }

    public int field(int field) {
        return called().field(field);
    }

    public int notice(int notice, int field) {
        return called().notice(notice, field);
    }

    public int clerk(int clerk, int what) {
        return called().clerk(clerk, what);
    }

    public int readerOf(int reader, int what) {
        return called().readerOf(reader, what);
    }

    public int has(int reader, int field) {
        return called().has(reader, field);
    }

    public int count(int what) {
        return called().count(what);
    }

    public int ifRead(int reader) {
        return called().ifRead(reader);
    }

    public int wouldBeHalf(int reader) {
        return called().wouldBeHalf(reader);
    }

    public int busy() {
        return called().busy();
    }

    public double wellShare() {
        return called().wellShare();
    }

    public long digest() {
        return called().digest();
    }
}
