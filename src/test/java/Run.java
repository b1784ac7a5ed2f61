/** A run of calls, which can be made again on another new object. */
interface Run {
    void on(Calls x);

    default Calls made() {
        Calls x = new Calls();
        on(x);
        return x;
    }

    default Run then(Run more) {
        return x -> {
            on(x);
            more.on(x);
        };
    }
}
