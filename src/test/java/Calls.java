/** Some calls, which can be made on a new object as often as one likes. */
interface Calls {
    void on(Run x);

    default Calls then(Calls more) {
        return x -> {
            on(x);
            more.on(x);
        };
    }

    default Run onNew() {
        Run x = new Run();
        on(x);
        return x;
    }
}
